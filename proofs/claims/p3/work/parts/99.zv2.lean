/-! THE LAWS TURNS -/
theorem o_16 {L : Nat} {ρ : Nat → Int} {rc : eQ} {d : Nat} {F : List eFr} {μ : eM} {g : Nat → Nat} {i : Int} (hL : L ≤ 4096) (hρ : ∀ j, -2147483648 ≤ ρ j ∧ ρ j ≤ 2147483647) (hi : 0 ≤ i ∧ i + 8 ≤ (L : Int)) (hI : SI g μ) (g64 : g 64 = 1) (g98 : g 98 = 52) (hP : RP g μ) (hB : HB g μ 64) (K : ∀ (g2 : Nat → Nat) (m : eM), GP g g2 → SI g2 m → RP g2 m → HB g2 m 64 → m.2.1.length ≤ μ.2.1.length + 250 → (m.2.2 ≤ μ.2.2 + 10281 ∧ (μ.1 64 10 ≠ 0 → m.1 64 10 ≠ 0) ∨ μ.1 64 10 = 0 ∧ m.1 64 10 ≠ 0 ∧ m.2.2 ≤ μ.2.2 + 19700) → ex_q (dt_fg L ρ) rc (d + 14, (0, 1788, [some (eR 1), some (eR 64), some (eR 98), some (eI (i))], []), F, m)) : ex_q (dt_fg L ρ) rc (d + 14, (0, 766, [some (eR 1), some (eR 64), some (eR 98), some (eI (i))], []), F, μ) := by
  refine w_s (np := 767) (lv' := [some (eR 1), some (eR 64), some (eR 98), some (eI (i))]) (st' := [eR 64]) rfl rfl rfl ?_
  refine w_cw (np := 770) (as := []) (l2 := [some (eR 64)]) (rest := []) rfl rfl rfl (Nat.ble_eq.mp rfl) rfl rfl rfl (hI.kd g64 (by decide) (n := 14) rfl) rfl ?_
  refine s_171 hI g64   ?_
  intro m3 v1 I4 F5 b2
  have p6 : RP g m3 := RP.fr hP F5 rfl
  have b7 := HB.fr hB g64 F5 rfl
  have e8 : m3.1 64 10 = μ.1 64 10 := F5.k rfl g64 (by decide) rfl
  show ex_q (dt_fg L ρ) rc (d + 14, (0, 770, [some (eR 1), some (eR 64), some (eR 98), some (eI (i))], [eI v1]), F, m3)
  refine w_s (np := 771) (lv' := [some (eR 1), some (eR 64), some (eR 98), some (eI (i))]) (st' := []) rfl rfl rfl ?_
  refine w_s (np := 772) (lv' := [some (eR 1), some (eR 64), some (eR 98), some (eI (i))]) (st' := [eR 98]) rfl rfl rfl ?_
  refine w_cw (np := 775) (as := []) (l2 := [some (eR 98), none]) (rest := []) rfl rfl rfl (Nat.ble_eq.mp rfl) rfl rfl rfl (I4.kd g98 (by decide) (n := 69) rfl) rfl ?_
  refine s_279 I4 g98   ?_
  intro m11 v9 I12 F13 b10
  have p14 : RP g m11 := RP.fr p6 F13 rfl
  have b15 := HB.fr b7 g64 F13 rfl
  have e16 : m11.1 64 10 = m3.1 64 10 := F13.k rfl g64 (by decide) rfl
  show ex_q (dt_fg L ρ) rc (d + 14, (0, 775, [some (eR 1), some (eR 64), some (eR 98), some (eI (i))], [eI v9]), F, m11)
  refine w_s (np := 776) (lv' := [some (eR 1), some (eR 64), some (eR 98), some (eI (i))]) (st' := []) rfl rfl rfl ?_
  refine w_go (t1 := 1788) rfl rfl ?_
  exact K g m11 (GP.r hI.1) I12 p14 b15 (by have h0z := F5.1; have h1z := F13.1; omega) (Or.inl ⟨(by have h0z := F5.2.1; have h1z := F13.2.1; omega), fun q => (by rw [e16, e8]; exact q)⟩)
theorem o_17 {L : Nat} {ρ : Nat → Int} {rc : eQ} {d : Nat} {F : List eFr} {μ : eM} {g : Nat → Nat} {i : Int} (hL : L ≤ 4096) (hρ : ∀ j, -2147483648 ≤ ρ j ∧ ρ j ≤ 2147483647) (hi : 0 ≤ i ∧ i + 8 ≤ (L : Int)) (hI : SI g μ) (g64 : g 64 = 1) (g98 : g 98 = 52) (hP : RP g μ) (hB : HB g μ 64) (K : ∀ (g2 : Nat → Nat) (m : eM), GP g g2 → SI g2 m → RP g2 m → HB g2 m 64 → m.2.1.length ≤ μ.2.1.length + 250 → (m.2.2 ≤ μ.2.2 + 10281 ∧ (μ.1 64 10 ≠ 0 → m.1 64 10 ≠ 0) ∨ μ.1 64 10 = 0 ∧ m.1 64 10 ≠ 0 ∧ m.2.2 ≤ μ.2.2 + 19700) → ex_q (dt_fg L ρ) rc (d + 14, (0, 1788, [some (eR 1), some (eR 64), some (eR 98), some (eI (i))], []), F, m)) : ex_q (dt_fg L ρ) rc (d + 14, (0, 779, [some (eR 1), some (eR 64), some (eR 98), some (eI (i))], []), F, μ) := by
  refine w_s (np := 780) (lv' := [some (eR 1), some (eR 64), some (eR 98), some (eI (i))]) (st' := [eR 64]) rfl rfl rfl ?_
  refine w_s (np := 781) (lv' := [some (eR 1), some (eR 64), some (eR 98), some (eI (i))]) (st' := [eR 1, eR 64]) rfl rfl rfl ?_
  refine w_s (np := 782) (lv' := [some (eR 1), some (eR 64), some (eR 98), some (eI (i))]) (st' := [eI (i), eR 1, eR 64]) rfl rfl rfl ?_
  refine w_s (np := 783) (lv' := [some (eR 1), some (eR 64), some (eR 98), some (eI (i))]) (st' := [eI (1), eI (i), eR 1, eR 64]) rfl rfl rfl ?_
  have w1 : ev_w (i + 1) = (i + 1) := ev_w_in (by omega) (by omega)
  refine w_s (np := 784) (lv' := [some (eR 1), some (eR 64), some (eR 98), some (eI (i))]) (st' := [eI (i + 1), eR 1, eR 64]) rfl (congrArg (fun q : Int => (some ([some (eR 1), some (eR 64), some (eR 98), some (eI (i))], eI q :: [eR 1, eR 64]) : Option (List (Option eV) × List eV))) w1) rfl ?_
  refine w_al (np := 785) (v := ρ (i + 1).toNat) rfl rfl (lw_sc hL (by omega) (by omega)) ?_
  refine w_s (np := 786) (lv' := [some (eR 1), some (eR 64), some (eR 98), some (eI (i))]) (st' := [eR 1, eI (ρ (i + 1).toNat), eR 64]) rfl rfl rfl ?_
  refine w_s (np := 787) (lv' := [some (eR 1), some (eR 64), some (eR 98), some (eI (i))]) (st' := [eI (i), eR 1, eI (ρ (i + 1).toNat), eR 64]) rfl rfl rfl ?_
  refine w_s (np := 788) (lv' := [some (eR 1), some (eR 64), some (eR 98), some (eI (i))]) (st' := [eI (2), eI (i), eR 1, eI (ρ (i + 1).toNat), eR 64]) rfl rfl rfl ?_
  have w2 : ev_w (i + 2) = (i + 2) := ev_w_in (by omega) (by omega)
  refine w_s (np := 789) (lv' := [some (eR 1), some (eR 64), some (eR 98), some (eI (i))]) (st' := [eI (i + 2), eR 1, eI (ρ (i + 1).toNat), eR 64]) rfl (congrArg (fun q : Int => (some ([some (eR 1), some (eR 64), some (eR 98), some (eI (i))], eI q :: [eR 1, eI (ρ (i + 1).toNat), eR 64]) : Option (List (Option eV) × List eV))) w2) rfl ?_
  refine w_al (np := 790) (v := ρ (i + 2).toNat) rfl rfl (lw_sc hL (by omega) (by omega)) ?_
  refine w_s (np := 791) (lv' := [some (eR 1), some (eR 64), some (eR 98), some (eI (i))]) (st' := [eR 1, eI (ρ (i + 2).toNat), eI (ρ (i + 1).toNat), eR 64]) rfl rfl rfl ?_
  refine w_s (np := 792) (lv' := [some (eR 1), some (eR 64), some (eR 98), some (eI (i))]) (st' := [eI (i), eR 1, eI (ρ (i + 2).toNat), eI (ρ (i + 1).toNat), eR 64]) rfl rfl rfl ?_
  refine w_s (np := 793) (lv' := [some (eR 1), some (eR 64), some (eR 98), some (eI (i))]) (st' := [eI (3), eI (i), eR 1, eI (ρ (i + 2).toNat), eI (ρ (i + 1).toNat), eR 64]) rfl rfl rfl ?_
  have w3 : ev_w (i + 3) = (i + 3) := ev_w_in (by omega) (by omega)
  refine w_s (np := 794) (lv' := [some (eR 1), some (eR 64), some (eR 98), some (eI (i))]) (st' := [eI (i + 3), eR 1, eI (ρ (i + 2).toNat), eI (ρ (i + 1).toNat), eR 64]) rfl (congrArg (fun q : Int => (some ([some (eR 1), some (eR 64), some (eR 98), some (eI (i))], eI q :: [eR 1, eI (ρ (i + 2).toNat), eI (ρ (i + 1).toNat), eR 64]) : Option (List (Option eV) × List eV))) w3) rfl ?_
  refine w_al (np := 795) (v := ρ (i + 3).toNat) rfl rfl (lw_sc hL (by omega) (by omega)) ?_
  refine w_cw (np := 798) (as := [eI (ρ (i + 1).toNat), eI (ρ (i + 2).toNat), eI (ρ (i + 3).toNat)]) (l2 := [some (eR 64), some (eI (ρ (i + 1).toNat)), some (eI (ρ (i + 2).toNat)), some (eI (ρ (i + 3).toNat)), none]) (rest := []) rfl rfl rfl (Nat.ble_eq.mp rfl) rfl rfl rfl (hI.kd g64 (by decide) (n := 14) rfl) rfl ?_
  refine s_172 (a1 := ρ (i + 1).toNat) (a2 := ρ (i + 2).toNat) (a3 := ρ (i + 3).toNat) hI g64 (hρ _) (hρ _) (hρ _)  ?_
  intro m6 v4 I7 F8 b5
  have p9 : RP g m6 := RP.fr hP F8 rfl
  have b10 := HB.fr hB g64 F8 rfl
  have e11 : m6.1 64 10 = μ.1 64 10 := F8.k rfl g64 (by decide) rfl
  show ex_q (dt_fg L ρ) rc (d + 14, (0, 798, [some (eR 1), some (eR 64), some (eR 98), some (eI (i))], [eI v4]), F, m6)
  refine w_s (np := 799) (lv' := [some (eR 1), some (eR 64), some (eR 98), some (eI (i))]) (st' := []) rfl rfl rfl ?_
  refine w_s (np := 800) (lv' := [some (eR 1), some (eR 64), some (eR 98), some (eI (i))]) (st' := [eR 98]) rfl rfl rfl ?_
  refine w_s (np := 801) (lv' := [some (eR 1), some (eR 64), some (eR 98), some (eI (i))]) (st' := [eR 1, eR 98]) rfl rfl rfl ?_
  refine w_s (np := 802) (lv' := [some (eR 1), some (eR 64), some (eR 98), some (eI (i))]) (st' := [eI (i), eR 1, eR 98]) rfl rfl rfl ?_
  refine w_s (np := 803) (lv' := [some (eR 1), some (eR 64), some (eR 98), some (eI (i))]) (st' := [eI (1), eI (i), eR 1, eR 98]) rfl rfl rfl ?_
  have w12 : ev_w (i + 1) = (i + 1) := ev_w_in (by omega) (by omega)
  refine w_s (np := 804) (lv' := [some (eR 1), some (eR 64), some (eR 98), some (eI (i))]) (st' := [eI (i + 1), eR 1, eR 98]) rfl (congrArg (fun q : Int => (some ([some (eR 1), some (eR 64), some (eR 98), some (eI (i))], eI q :: [eR 1, eR 98]) : Option (List (Option eV) × List eV))) w12) rfl ?_
  refine w_al (np := 805) (v := ρ (i + 1).toNat) rfl rfl (lw_sc hL (by omega) (by omega)) ?_
  refine w_s (np := 806) (lv' := [some (eR 1), some (eR 64), some (eR 98), some (eI (i))]) (st' := [eR 1, eI (ρ (i + 1).toNat), eR 98]) rfl rfl rfl ?_
  refine w_s (np := 807) (lv' := [some (eR 1), some (eR 64), some (eR 98), some (eI (i))]) (st' := [eI (i), eR 1, eI (ρ (i + 1).toNat), eR 98]) rfl rfl rfl ?_
  refine w_s (np := 808) (lv' := [some (eR 1), some (eR 64), some (eR 98), some (eI (i))]) (st' := [eI (2), eI (i), eR 1, eI (ρ (i + 1).toNat), eR 98]) rfl rfl rfl ?_
  have w13 : ev_w (i + 2) = (i + 2) := ev_w_in (by omega) (by omega)
  refine w_s (np := 809) (lv' := [some (eR 1), some (eR 64), some (eR 98), some (eI (i))]) (st' := [eI (i + 2), eR 1, eI (ρ (i + 1).toNat), eR 98]) rfl (congrArg (fun q : Int => (some ([some (eR 1), some (eR 64), some (eR 98), some (eI (i))], eI q :: [eR 1, eI (ρ (i + 1).toNat), eR 98]) : Option (List (Option eV) × List eV))) w13) rfl ?_
  refine w_al (np := 810) (v := ρ (i + 2).toNat) rfl rfl (lw_sc hL (by omega) (by omega)) ?_
  refine w_s (np := 811) (lv' := [some (eR 1), some (eR 64), some (eR 98), some (eI (i))]) (st' := [eR 1, eI (ρ (i + 2).toNat), eI (ρ (i + 1).toNat), eR 98]) rfl rfl rfl ?_
  refine w_s (np := 812) (lv' := [some (eR 1), some (eR 64), some (eR 98), some (eI (i))]) (st' := [eI (i), eR 1, eI (ρ (i + 2).toNat), eI (ρ (i + 1).toNat), eR 98]) rfl rfl rfl ?_
  refine w_s (np := 813) (lv' := [some (eR 1), some (eR 64), some (eR 98), some (eI (i))]) (st' := [eI (3), eI (i), eR 1, eI (ρ (i + 2).toNat), eI (ρ (i + 1).toNat), eR 98]) rfl rfl rfl ?_
  have w14 : ev_w (i + 3) = (i + 3) := ev_w_in (by omega) (by omega)
  refine w_s (np := 814) (lv' := [some (eR 1), some (eR 64), some (eR 98), some (eI (i))]) (st' := [eI (i + 3), eR 1, eI (ρ (i + 2).toNat), eI (ρ (i + 1).toNat), eR 98]) rfl (congrArg (fun q : Int => (some ([some (eR 1), some (eR 64), some (eR 98), some (eI (i))], eI q :: [eR 1, eI (ρ (i + 2).toNat), eI (ρ (i + 1).toNat), eR 98]) : Option (List (Option eV) × List eV))) w14) rfl ?_
  refine w_al (np := 815) (v := ρ (i + 3).toNat) rfl rfl (lw_sc hL (by omega) (by omega)) ?_
  refine w_cw (np := 818) (as := [eI (ρ (i + 1).toNat), eI (ρ (i + 2).toNat), eI (ρ (i + 3).toNat)]) (l2 := [some (eR 98), some (eI (ρ (i + 1).toNat)), some (eI (ρ (i + 2).toNat)), some (eI (ρ (i + 3).toNat))]) (rest := []) rfl rfl rfl (Nat.ble_eq.mp rfl) rfl rfl rfl (I7.kd g98 (by decide) (n := 69) rfl) rfl ?_
  refine s_280 (a1 := ρ (i + 1).toNat) (a2 := ρ (i + 2).toNat) (a3 := ρ (i + 3).toNat) I7 g98 (hρ _) (hρ _) (hρ _)  ?_
  intro m17 v15 I18 F19 b16
  have p20 : RP g m17 := RP.fr p9 F19 rfl
  have b21 := HB.fr b10 g64 F19 rfl
  have e22 : m17.1 64 10 = m6.1 64 10 := F19.k rfl g64 (by decide) rfl
  show ex_q (dt_fg L ρ) rc (d + 14, (0, 818, [some (eR 1), some (eR 64), some (eR 98), some (eI (i))], [eI v15]), F, m17)
  refine w_s (np := 819) (lv' := [some (eR 1), some (eR 64), some (eR 98), some (eI (i))]) (st' := []) rfl rfl rfl ?_
  refine w_go (t1 := 1788) rfl rfl ?_
  exact K g m17 (GP.r hI.1) I18 p20 b21 (by have h0z := F8.1; have h1z := F19.1; omega) (Or.inl ⟨(by have h0z := F8.2.1; have h1z := F19.2.1; omega), fun q => (by rw [e22, e11]; exact q)⟩)
theorem o_18 {L : Nat} {ρ : Nat → Int} {rc : eQ} {d : Nat} {F : List eFr} {μ : eM} {g : Nat → Nat} {i : Int} (hL : L ≤ 4096) (hρ : ∀ j, -2147483648 ≤ ρ j ∧ ρ j ≤ 2147483647) (hi : 0 ≤ i ∧ i + 8 ≤ (L : Int)) (hI : SI g μ) (g64 : g 64 = 1) (g98 : g 98 = 52) (hP : RP g μ) (hB : HB g μ 64) (K : ∀ (g2 : Nat → Nat) (m : eM), GP g g2 → SI g2 m → RP g2 m → HB g2 m 64 → m.2.1.length ≤ μ.2.1.length + 250 → (m.2.2 ≤ μ.2.2 + 10281 ∧ (μ.1 64 10 ≠ 0 → m.1 64 10 ≠ 0) ∨ μ.1 64 10 = 0 ∧ m.1 64 10 ≠ 0 ∧ m.2.2 ≤ μ.2.2 + 19700) → ex_q (dt_fg L ρ) rc (d + 14, (0, 1788, [some (eR 1), some (eR 64), some (eR 98), some (eI (i))], []), F, m)) : ex_q (dt_fg L ρ) rc (d + 14, (0, 822, [some (eR 1), some (eR 64), some (eR 98), some (eI (i))], []), F, μ) := by
  refine w_s (np := 823) (lv' := [some (eR 1), some (eR 64), some (eR 98), some (eI (i))]) (st' := [eR 64]) rfl rfl rfl ?_
  refine w_s (np := 824) (lv' := [some (eR 1), some (eR 64), some (eR 98), some (eI (i))]) (st' := [eR 1, eR 64]) rfl rfl rfl ?_
  refine w_s (np := 825) (lv' := [some (eR 1), some (eR 64), some (eR 98), some (eI (i))]) (st' := [eI (i), eR 1, eR 64]) rfl rfl rfl ?_
  refine w_s (np := 826) (lv' := [some (eR 1), some (eR 64), some (eR 98), some (eI (i))]) (st' := [eI (1), eI (i), eR 1, eR 64]) rfl rfl rfl ?_
  have w1 : ev_w (i + 1) = (i + 1) := ev_w_in (by omega) (by omega)
  refine w_s (np := 827) (lv' := [some (eR 1), some (eR 64), some (eR 98), some (eI (i))]) (st' := [eI (i + 1), eR 1, eR 64]) rfl (congrArg (fun q : Int => (some ([some (eR 1), some (eR 64), some (eR 98), some (eI (i))], eI q :: [eR 1, eR 64]) : Option (List (Option eV) × List eV))) w1) rfl ?_
  refine w_al (np := 828) (v := ρ (i + 1).toNat) rfl rfl (lw_sc hL (by omega) (by omega)) ?_
  refine w_s (np := 829) (lv' := [some (eR 1), some (eR 64), some (eR 98), some (eI (i))]) (st' := [eR 1, eI (ρ (i + 1).toNat), eR 64]) rfl rfl rfl ?_
  refine w_s (np := 830) (lv' := [some (eR 1), some (eR 64), some (eR 98), some (eI (i))]) (st' := [eI (i), eR 1, eI (ρ (i + 1).toNat), eR 64]) rfl rfl rfl ?_
  refine w_s (np := 831) (lv' := [some (eR 1), some (eR 64), some (eR 98), some (eI (i))]) (st' := [eI (2), eI (i), eR 1, eI (ρ (i + 1).toNat), eR 64]) rfl rfl rfl ?_
  have w2 : ev_w (i + 2) = (i + 2) := ev_w_in (by omega) (by omega)
  refine w_s (np := 832) (lv' := [some (eR 1), some (eR 64), some (eR 98), some (eI (i))]) (st' := [eI (i + 2), eR 1, eI (ρ (i + 1).toNat), eR 64]) rfl (congrArg (fun q : Int => (some ([some (eR 1), some (eR 64), some (eR 98), some (eI (i))], eI q :: [eR 1, eI (ρ (i + 1).toNat), eR 64]) : Option (List (Option eV) × List eV))) w2) rfl ?_
  refine w_al (np := 833) (v := ρ (i + 2).toNat) rfl rfl (lw_sc hL (by omega) (by omega)) ?_
  refine w_cw (np := 836) (as := [eI (ρ (i + 1).toNat), eI (ρ (i + 2).toNat)]) (l2 := [some (eR 64), some (eI (ρ (i + 1).toNat)), some (eI (ρ (i + 2).toNat))]) (rest := []) rfl rfl rfl (Nat.ble_eq.mp rfl) rfl rfl rfl (hI.kd g64 (by decide) (n := 14) rfl) rfl ?_
  refine s_173 (a1 := ρ (i + 1).toNat) (a2 := ρ (i + 2).toNat) hI g64 (hρ _) (hρ _)  ?_
  intro m5 v3 I6 F7 b4
  have p8 : RP g m5 := RP.fr hP F7 rfl
  have b9 := HB.fr hB g64 F7 rfl
  have e10 : m5.1 64 10 = μ.1 64 10 := F7.k rfl g64 (by decide) rfl
  show ex_q (dt_fg L ρ) rc (d + 14, (0, 836, [some (eR 1), some (eR 64), some (eR 98), some (eI (i))], [eI v3]), F, m5)
  refine w_s (np := 837) (lv' := [some (eR 1), some (eR 64), some (eR 98), some (eI (i))]) (st' := []) rfl rfl rfl ?_
  refine w_s (np := 838) (lv' := [some (eR 1), some (eR 64), some (eR 98), some (eI (i))]) (st' := [eR 98]) rfl rfl rfl ?_
  refine w_s (np := 839) (lv' := [some (eR 1), some (eR 64), some (eR 98), some (eI (i))]) (st' := [eR 1, eR 98]) rfl rfl rfl ?_
  refine w_s (np := 840) (lv' := [some (eR 1), some (eR 64), some (eR 98), some (eI (i))]) (st' := [eI (i), eR 1, eR 98]) rfl rfl rfl ?_
  refine w_s (np := 841) (lv' := [some (eR 1), some (eR 64), some (eR 98), some (eI (i))]) (st' := [eI (1), eI (i), eR 1, eR 98]) rfl rfl rfl ?_
  have w11 : ev_w (i + 1) = (i + 1) := ev_w_in (by omega) (by omega)
  refine w_s (np := 842) (lv' := [some (eR 1), some (eR 64), some (eR 98), some (eI (i))]) (st' := [eI (i + 1), eR 1, eR 98]) rfl (congrArg (fun q : Int => (some ([some (eR 1), some (eR 64), some (eR 98), some (eI (i))], eI q :: [eR 1, eR 98]) : Option (List (Option eV) × List eV))) w11) rfl ?_
  refine w_al (np := 843) (v := ρ (i + 1).toNat) rfl rfl (lw_sc hL (by omega) (by omega)) ?_
  refine w_s (np := 844) (lv' := [some (eR 1), some (eR 64), some (eR 98), some (eI (i))]) (st' := [eR 1, eI (ρ (i + 1).toNat), eR 98]) rfl rfl rfl ?_
  refine w_s (np := 845) (lv' := [some (eR 1), some (eR 64), some (eR 98), some (eI (i))]) (st' := [eI (i), eR 1, eI (ρ (i + 1).toNat), eR 98]) rfl rfl rfl ?_
  refine w_s (np := 846) (lv' := [some (eR 1), some (eR 64), some (eR 98), some (eI (i))]) (st' := [eI (2), eI (i), eR 1, eI (ρ (i + 1).toNat), eR 98]) rfl rfl rfl ?_
  have w12 : ev_w (i + 2) = (i + 2) := ev_w_in (by omega) (by omega)
  refine w_s (np := 847) (lv' := [some (eR 1), some (eR 64), some (eR 98), some (eI (i))]) (st' := [eI (i + 2), eR 1, eI (ρ (i + 1).toNat), eR 98]) rfl (congrArg (fun q : Int => (some ([some (eR 1), some (eR 64), some (eR 98), some (eI (i))], eI q :: [eR 1, eI (ρ (i + 1).toNat), eR 98]) : Option (List (Option eV) × List eV))) w12) rfl ?_
  refine w_al (np := 848) (v := ρ (i + 2).toNat) rfl rfl (lw_sc hL (by omega) (by omega)) ?_
  refine w_cw (np := 851) (as := [eI (ρ (i + 1).toNat), eI (ρ (i + 2).toNat)]) (l2 := [some (eR 98), some (eI (ρ (i + 1).toNat)), some (eI (ρ (i + 2).toNat)), none]) (rest := []) rfl rfl rfl (Nat.ble_eq.mp rfl) rfl rfl rfl (I6.kd g98 (by decide) (n := 69) rfl) rfl ?_
  refine s_281 (a1 := ρ (i + 1).toNat) (a2 := ρ (i + 2).toNat) I6 g98 (hρ _) (hρ _)  ?_
  intro m15 v13 I16 F17 b14
  have p18 : RP g m15 := RP.fr p8 F17 rfl
  have b19 := HB.fr b9 g64 F17 rfl
  have e20 : m15.1 64 10 = m5.1 64 10 := F17.k rfl g64 (by decide) rfl
  show ex_q (dt_fg L ρ) rc (d + 14, (0, 851, [some (eR 1), some (eR 64), some (eR 98), some (eI (i))], [eI v13]), F, m15)
  refine w_s (np := 852) (lv' := [some (eR 1), some (eR 64), some (eR 98), some (eI (i))]) (st' := []) rfl rfl rfl ?_
  refine w_go (t1 := 1788) rfl rfl ?_
  exact K g m15 (GP.r hI.1) I16 p18 b19 (by have h0z := F7.1; have h1z := F17.1; omega) (Or.inl ⟨(by have h0z := F7.2.1; have h1z := F17.2.1; omega), fun q => (by rw [e20, e10]; exact q)⟩)
theorem o_19 {L : Nat} {ρ : Nat → Int} {rc : eQ} {d : Nat} {F : List eFr} {μ : eM} {g : Nat → Nat} {i : Int} (hL : L ≤ 4096) (hρ : ∀ j, -2147483648 ≤ ρ j ∧ ρ j ≤ 2147483647) (hi : 0 ≤ i ∧ i + 8 ≤ (L : Int)) (hI : SI g μ) (g64 : g 64 = 1) (g98 : g 98 = 52) (hP : RP g μ) (hB : HB g μ 64) (K : ∀ (g2 : Nat → Nat) (m : eM), GP g g2 → SI g2 m → RP g2 m → HB g2 m 64 → m.2.1.length ≤ μ.2.1.length + 250 → (m.2.2 ≤ μ.2.2 + 10281 ∧ (μ.1 64 10 ≠ 0 → m.1 64 10 ≠ 0) ∨ μ.1 64 10 = 0 ∧ m.1 64 10 ≠ 0 ∧ m.2.2 ≤ μ.2.2 + 19700) → ex_q (dt_fg L ρ) rc (d + 14, (0, 1788, [some (eR 1), some (eR 64), some (eR 98), some (eI (i))], []), F, m)) : ex_q (dt_fg L ρ) rc (d + 14, (0, 855, [some (eR 1), some (eR 64), some (eR 98), some (eI (i))], []), F, μ) := by
  refine w_s (np := 856) (lv' := [some (eR 1), some (eR 64), some (eR 98), some (eI (i))]) (st' := [eR 64]) rfl rfl rfl ?_
  refine w_s (np := 857) (lv' := [some (eR 1), some (eR 64), some (eR 98), some (eI (i))]) (st' := [eR 1, eR 64]) rfl rfl rfl ?_
  refine w_s (np := 858) (lv' := [some (eR 1), some (eR 64), some (eR 98), some (eI (i))]) (st' := [eI (i), eR 1, eR 64]) rfl rfl rfl ?_
  refine w_s (np := 859) (lv' := [some (eR 1), some (eR 64), some (eR 98), some (eI (i))]) (st' := [eI (1), eI (i), eR 1, eR 64]) rfl rfl rfl ?_
  have w1 : ev_w (i + 1) = (i + 1) := ev_w_in (by omega) (by omega)
  refine w_s (np := 860) (lv' := [some (eR 1), some (eR 64), some (eR 98), some (eI (i))]) (st' := [eI (i + 1), eR 1, eR 64]) rfl (congrArg (fun q : Int => (some ([some (eR 1), some (eR 64), some (eR 98), some (eI (i))], eI q :: [eR 1, eR 64]) : Option (List (Option eV) × List eV))) w1) rfl ?_
  refine w_al (np := 861) (v := ρ (i + 1).toNat) rfl rfl (lw_sc hL (by omega) (by omega)) ?_
  refine w_s (np := 862) (lv' := [some (eR 1), some (eR 64), some (eR 98), some (eI (i))]) (st' := [eR 1, eI (ρ (i + 1).toNat), eR 64]) rfl rfl rfl ?_
  refine w_s (np := 863) (lv' := [some (eR 1), some (eR 64), some (eR 98), some (eI (i))]) (st' := [eI (i), eR 1, eI (ρ (i + 1).toNat), eR 64]) rfl rfl rfl ?_
  refine w_s (np := 864) (lv' := [some (eR 1), some (eR 64), some (eR 98), some (eI (i))]) (st' := [eI (2), eI (i), eR 1, eI (ρ (i + 1).toNat), eR 64]) rfl rfl rfl ?_
  have w2 : ev_w (i + 2) = (i + 2) := ev_w_in (by omega) (by omega)
  refine w_s (np := 865) (lv' := [some (eR 1), some (eR 64), some (eR 98), some (eI (i))]) (st' := [eI (i + 2), eR 1, eI (ρ (i + 1).toNat), eR 64]) rfl (congrArg (fun q : Int => (some ([some (eR 1), some (eR 64), some (eR 98), some (eI (i))], eI q :: [eR 1, eI (ρ (i + 1).toNat), eR 64]) : Option (List (Option eV) × List eV))) w2) rfl ?_
  refine w_al (np := 866) (v := ρ (i + 2).toNat) rfl rfl (lw_sc hL (by omega) (by omega)) ?_
  refine w_cw (np := 869) (as := [eI (ρ (i + 1).toNat), eI (ρ (i + 2).toNat)]) (l2 := [some (eR 64), some (eI (ρ (i + 1).toNat)), some (eI (ρ (i + 2).toNat)), none]) (rest := []) rfl rfl rfl (Nat.ble_eq.mp rfl) rfl rfl rfl (hI.kd g64 (by decide) (n := 14) rfl) rfl ?_
  refine s_174 (a1 := ρ (i + 1).toNat) (a2 := ρ (i + 2).toNat) hI g64 (hρ _) (hρ _)  ?_
  intro g5 m6 v3 E7 I8 F9 b4
  have p10 := RP.fr hP F9 rfl
  have b11 := HB.fr hB g64 F9 rfl
  have G16 := E7.p
  have p14 := p10.go I8 G16
  have b15 := b11.go G16
  have g12 : g5 64 = 1 := E7.g g64 (by decide)
  have g13 : g5 98 = 52 := E7.g g98 (by decide)
  have e17 : m6.1 64 10 = μ.1 64 10 := F9.k rfl g64 (by decide) rfl
  show ex_q (dt_fg L ρ) rc (d + 14, (0, 869, [some (eR 1), some (eR 64), some (eR 98), some (eI (i))], [eI v3]), F, m6)
  refine w_s (np := 870) (lv' := [some (eR 1), some (eR 64), some (eR 98), some (eI (i))]) (st' := []) rfl rfl rfl ?_
  refine w_s (np := 871) (lv' := [some (eR 1), some (eR 64), some (eR 98), some (eI (i))]) (st' := [eR 98]) rfl rfl rfl ?_
  refine w_s (np := 872) (lv' := [some (eR 1), some (eR 64), some (eR 98), some (eI (i))]) (st' := [eR 1, eR 98]) rfl rfl rfl ?_
  refine w_s (np := 873) (lv' := [some (eR 1), some (eR 64), some (eR 98), some (eI (i))]) (st' := [eI (i), eR 1, eR 98]) rfl rfl rfl ?_
  refine w_s (np := 874) (lv' := [some (eR 1), some (eR 64), some (eR 98), some (eI (i))]) (st' := [eI (1), eI (i), eR 1, eR 98]) rfl rfl rfl ?_
  have w18 : ev_w (i + 1) = (i + 1) := ev_w_in (by omega) (by omega)
  refine w_s (np := 875) (lv' := [some (eR 1), some (eR 64), some (eR 98), some (eI (i))]) (st' := [eI (i + 1), eR 1, eR 98]) rfl (congrArg (fun q : Int => (some ([some (eR 1), some (eR 64), some (eR 98), some (eI (i))], eI q :: [eR 1, eR 98]) : Option (List (Option eV) × List eV))) w18) rfl ?_
  refine w_al (np := 876) (v := ρ (i + 1).toNat) rfl rfl (lw_sc hL (by omega) (by omega)) ?_
  refine w_s (np := 877) (lv' := [some (eR 1), some (eR 64), some (eR 98), some (eI (i))]) (st' := [eR 1, eI (ρ (i + 1).toNat), eR 98]) rfl rfl rfl ?_
  refine w_s (np := 878) (lv' := [some (eR 1), some (eR 64), some (eR 98), some (eI (i))]) (st' := [eI (i), eR 1, eI (ρ (i + 1).toNat), eR 98]) rfl rfl rfl ?_
  refine w_s (np := 879) (lv' := [some (eR 1), some (eR 64), some (eR 98), some (eI (i))]) (st' := [eI (2), eI (i), eR 1, eI (ρ (i + 1).toNat), eR 98]) rfl rfl rfl ?_
  have w19 : ev_w (i + 2) = (i + 2) := ev_w_in (by omega) (by omega)
  refine w_s (np := 880) (lv' := [some (eR 1), some (eR 64), some (eR 98), some (eI (i))]) (st' := [eI (i + 2), eR 1, eI (ρ (i + 1).toNat), eR 98]) rfl (congrArg (fun q : Int => (some ([some (eR 1), some (eR 64), some (eR 98), some (eI (i))], eI q :: [eR 1, eI (ρ (i + 1).toNat), eR 98]) : Option (List (Option eV) × List eV))) w19) rfl ?_
  refine w_al (np := 881) (v := ρ (i + 2).toNat) rfl rfl (lw_sc hL (by omega) (by omega)) ?_
  refine w_cw (np := 884) (as := [eI (ρ (i + 1).toNat), eI (ρ (i + 2).toNat)]) (l2 := [some (eR 98), some (eI (ρ (i + 1).toNat)), some (eI (ρ (i + 2).toNat))]) (rest := []) rfl rfl rfl (Nat.ble_eq.mp rfl) rfl rfl rfl (I8.kd g13 (by decide) (n := 69) rfl) rfl ?_
  refine s_286 (a1 := ρ (i + 1).toNat) (a2 := ρ (i + 2).toNat) I8 g13 (hρ _) (hρ _)  ?_
  intro m22 v20 I23 F24 b21
  have p25 : RP g5 m22 := RP.fr p14 F24 rfl
  have b26 := HB.fr b15 g12 F24 rfl
  have e27 : m22.1 64 10 = m6.1 64 10 := F24.k rfl g12 (by decide) rfl
  show ex_q (dt_fg L ρ) rc (d + 14, (0, 884, [some (eR 1), some (eR 64), some (eR 98), some (eI (i))], [eI v20]), F, m22)
  refine w_s (np := 885) (lv' := [some (eR 1), some (eR 64), some (eR 98), some (eI (i))]) (st' := []) rfl rfl rfl ?_
  refine w_go (t1 := 1788) rfl rfl ?_
  exact K g5 m22 G16 I23 p25 b26 (by have h0z := F9.1; have h1z := F24.1; omega) (Or.inl ⟨(by have h0z := F9.2.1; have h1z := F24.2.1; omega), fun q => (by rw [e27, e17]; exact q)⟩)
theorem o_20 {L : Nat} {ρ : Nat → Int} {rc : eQ} {d : Nat} {F : List eFr} {μ : eM} {g : Nat → Nat} {i : Int} (hL : L ≤ 4096) (hρ : ∀ j, -2147483648 ≤ ρ j ∧ ρ j ≤ 2147483647) (hi : 0 ≤ i ∧ i + 8 ≤ (L : Int)) (hI : SI g μ) (g64 : g 64 = 1) (g98 : g 98 = 52) (hP : RP g μ) (hB : HB g μ 64) (K : ∀ (g2 : Nat → Nat) (m : eM), GP g g2 → SI g2 m → RP g2 m → HB g2 m 64 → m.2.1.length ≤ μ.2.1.length + 250 → (m.2.2 ≤ μ.2.2 + 10281 ∧ (μ.1 64 10 ≠ 0 → m.1 64 10 ≠ 0) ∨ μ.1 64 10 = 0 ∧ m.1 64 10 ≠ 0 ∧ m.2.2 ≤ μ.2.2 + 19700) → ex_q (dt_fg L ρ) rc (d + 14, (0, 1788, [some (eR 1), some (eR 64), some (eR 98), some (eI (i))], []), F, m)) : ex_q (dt_fg L ρ) rc (d + 14, (0, 888, [some (eR 1), some (eR 64), some (eR 98), some (eI (i))], []), F, μ) := by
  refine w_s (np := 889) (lv' := [some (eR 1), some (eR 64), some (eR 98), some (eI (i))]) (st' := [eR 64]) rfl rfl rfl ?_
  refine w_s (np := 890) (lv' := [some (eR 1), some (eR 64), some (eR 98), some (eI (i))]) (st' := [eR 1, eR 64]) rfl rfl rfl ?_
  refine w_s (np := 891) (lv' := [some (eR 1), some (eR 64), some (eR 98), some (eI (i))]) (st' := [eI (i), eR 1, eR 64]) rfl rfl rfl ?_
  refine w_s (np := 892) (lv' := [some (eR 1), some (eR 64), some (eR 98), some (eI (i))]) (st' := [eI (1), eI (i), eR 1, eR 64]) rfl rfl rfl ?_
  have w1 : ev_w (i + 1) = (i + 1) := ev_w_in (by omega) (by omega)
  refine w_s (np := 893) (lv' := [some (eR 1), some (eR 64), some (eR 98), some (eI (i))]) (st' := [eI (i + 1), eR 1, eR 64]) rfl (congrArg (fun q : Int => (some ([some (eR 1), some (eR 64), some (eR 98), some (eI (i))], eI q :: [eR 1, eR 64]) : Option (List (Option eV) × List eV))) w1) rfl ?_
  refine w_al (np := 894) (v := ρ (i + 1).toNat) rfl rfl (lw_sc hL (by omega) (by omega)) ?_
  refine w_s (np := 895) (lv' := [some (eR 1), some (eR 64), some (eR 98), some (eI (i))]) (st' := [eR 1, eI (ρ (i + 1).toNat), eR 64]) rfl rfl rfl ?_
  refine w_s (np := 896) (lv' := [some (eR 1), some (eR 64), some (eR 98), some (eI (i))]) (st' := [eI (i), eR 1, eI (ρ (i + 1).toNat), eR 64]) rfl rfl rfl ?_
  refine w_s (np := 897) (lv' := [some (eR 1), some (eR 64), some (eR 98), some (eI (i))]) (st' := [eI (2), eI (i), eR 1, eI (ρ (i + 1).toNat), eR 64]) rfl rfl rfl ?_
  have w2 : ev_w (i + 2) = (i + 2) := ev_w_in (by omega) (by omega)
  refine w_s (np := 898) (lv' := [some (eR 1), some (eR 64), some (eR 98), some (eI (i))]) (st' := [eI (i + 2), eR 1, eI (ρ (i + 1).toNat), eR 64]) rfl (congrArg (fun q : Int => (some ([some (eR 1), some (eR 64), some (eR 98), some (eI (i))], eI q :: [eR 1, eI (ρ (i + 1).toNat), eR 64]) : Option (List (Option eV) × List eV))) w2) rfl ?_
  refine w_al (np := 899) (v := ρ (i + 2).toNat) rfl rfl (lw_sc hL (by omega) (by omega)) ?_
  refine w_cw (np := 902) (as := [eI (ρ (i + 1).toNat), eI (ρ (i + 2).toNat)]) (l2 := [some (eR 64), some (eI (ρ (i + 1).toNat)), some (eI (ρ (i + 2).toNat))]) (rest := []) rfl rfl rfl (Nat.ble_eq.mp rfl) rfl rfl rfl (hI.kd g64 (by decide) (n := 14) rfl) rfl ?_
  refine s_175 (a1 := ρ (i + 1).toNat) (a2 := ρ (i + 2).toNat) hI g64 (hρ _) (hρ _)  ?_
  intro g5 m6 v3 E7 I8 F9 b4
  have p10 := RP.fr hP F9 rfl
  have b11 := HB.fr hB g64 F9 rfl
  have G16 := E7.p
  have p14 := p10.go I8 G16
  have b15 := b11.go G16
  have g12 : g5 64 = 1 := E7.g g64 (by decide)
  have g13 : g5 98 = 52 := E7.g g98 (by decide)
  have e17 : m6.1 64 10 = μ.1 64 10 := F9.k rfl g64 (by decide) rfl
  show ex_q (dt_fg L ρ) rc (d + 14, (0, 902, [some (eR 1), some (eR 64), some (eR 98), some (eI (i))], [eI v3]), F, m6)
  refine w_s (np := 903) (lv' := [some (eR 1), some (eR 64), some (eR 98), some (eI (i))]) (st' := []) rfl rfl rfl ?_
  refine w_s (np := 904) (lv' := [some (eR 1), some (eR 64), some (eR 98), some (eI (i))]) (st' := [eR 98]) rfl rfl rfl ?_
  refine w_s (np := 905) (lv' := [some (eR 1), some (eR 64), some (eR 98), some (eI (i))]) (st' := [eR 1, eR 98]) rfl rfl rfl ?_
  refine w_s (np := 906) (lv' := [some (eR 1), some (eR 64), some (eR 98), some (eI (i))]) (st' := [eI (i), eR 1, eR 98]) rfl rfl rfl ?_
  refine w_s (np := 907) (lv' := [some (eR 1), some (eR 64), some (eR 98), some (eI (i))]) (st' := [eI (1), eI (i), eR 1, eR 98]) rfl rfl rfl ?_
  have w18 : ev_w (i + 1) = (i + 1) := ev_w_in (by omega) (by omega)
  refine w_s (np := 908) (lv' := [some (eR 1), some (eR 64), some (eR 98), some (eI (i))]) (st' := [eI (i + 1), eR 1, eR 98]) rfl (congrArg (fun q : Int => (some ([some (eR 1), some (eR 64), some (eR 98), some (eI (i))], eI q :: [eR 1, eR 98]) : Option (List (Option eV) × List eV))) w18) rfl ?_
  refine w_al (np := 909) (v := ρ (i + 1).toNat) rfl rfl (lw_sc hL (by omega) (by omega)) ?_
  refine w_s (np := 910) (lv' := [some (eR 1), some (eR 64), some (eR 98), some (eI (i))]) (st' := [eR 1, eI (ρ (i + 1).toNat), eR 98]) rfl rfl rfl ?_
  refine w_s (np := 911) (lv' := [some (eR 1), some (eR 64), some (eR 98), some (eI (i))]) (st' := [eI (i), eR 1, eI (ρ (i + 1).toNat), eR 98]) rfl rfl rfl ?_
  refine w_s (np := 912) (lv' := [some (eR 1), some (eR 64), some (eR 98), some (eI (i))]) (st' := [eI (2), eI (i), eR 1, eI (ρ (i + 1).toNat), eR 98]) rfl rfl rfl ?_
  have w19 : ev_w (i + 2) = (i + 2) := ev_w_in (by omega) (by omega)
  refine w_s (np := 913) (lv' := [some (eR 1), some (eR 64), some (eR 98), some (eI (i))]) (st' := [eI (i + 2), eR 1, eI (ρ (i + 1).toNat), eR 98]) rfl (congrArg (fun q : Int => (some ([some (eR 1), some (eR 64), some (eR 98), some (eI (i))], eI q :: [eR 1, eI (ρ (i + 1).toNat), eR 98]) : Option (List (Option eV) × List eV))) w19) rfl ?_
  refine w_al (np := 914) (v := ρ (i + 2).toNat) rfl rfl (lw_sc hL (by omega) (by omega)) ?_
  refine w_cw (np := 917) (as := [eI (ρ (i + 1).toNat), eI (ρ (i + 2).toNat)]) (l2 := [some (eR 98), some (eI (ρ (i + 1).toNat)), some (eI (ρ (i + 2).toNat)), none, none]) (rest := []) rfl rfl rfl (Nat.ble_eq.mp rfl) rfl rfl rfl (I8.kd g13 (by decide) (n := 69) rfl) rfl ?_
  refine s_287 (a1 := ρ (i + 1).toNat) (a2 := ρ (i + 2).toNat) I8 g13 (hρ _) (hρ _)  ?_
  intro m22 v20 I23 F24 b21
  have p25 : RP g5 m22 := RP.fr p14 F24 rfl
  have b26 := HB.fr b15 g12 F24 rfl
  have e27 : m22.1 64 10 = m6.1 64 10 := F24.k rfl g12 (by decide) rfl
  show ex_q (dt_fg L ρ) rc (d + 14, (0, 917, [some (eR 1), some (eR 64), some (eR 98), some (eI (i))], [eI v20]), F, m22)
  refine w_s (np := 918) (lv' := [some (eR 1), some (eR 64), some (eR 98), some (eI (i))]) (st' := []) rfl rfl rfl ?_
  refine w_go (t1 := 1788) rfl rfl ?_
  exact K g5 m22 G16 I23 p25 b26 (by have h0z := F9.1; have h1z := F24.1; omega) (Or.inl ⟨(by have h0z := F9.2.1; have h1z := F24.2.1; omega), fun q => (by rw [e27, e17]; exact q)⟩)
theorem o_21 {L : Nat} {ρ : Nat → Int} {rc : eQ} {d : Nat} {F : List eFr} {μ : eM} {g : Nat → Nat} {i : Int} (hL : L ≤ 4096) (hρ : ∀ j, -2147483648 ≤ ρ j ∧ ρ j ≤ 2147483647) (hi : 0 ≤ i ∧ i + 8 ≤ (L : Int)) (hI : SI g μ) (g64 : g 64 = 1) (g98 : g 98 = 52) (hP : RP g μ) (hB : HB g μ 64) (K : ∀ (g2 : Nat → Nat) (m : eM), GP g g2 → SI g2 m → RP g2 m → HB g2 m 64 → m.2.1.length ≤ μ.2.1.length + 250 → (m.2.2 ≤ μ.2.2 + 10281 ∧ (μ.1 64 10 ≠ 0 → m.1 64 10 ≠ 0) ∨ μ.1 64 10 = 0 ∧ m.1 64 10 ≠ 0 ∧ m.2.2 ≤ μ.2.2 + 19700) → ex_q (dt_fg L ρ) rc (d + 14, (0, 1788, [some (eR 1), some (eR 64), some (eR 98), some (eI (i))], []), F, m)) : ex_q (dt_fg L ρ) rc (d + 14, (0, 921, [some (eR 1), some (eR 64), some (eR 98), some (eI (i))], []), F, μ) := by
  refine w_s (np := 922) (lv' := [some (eR 1), some (eR 64), some (eR 98), some (eI (i))]) (st' := [eR 64]) rfl rfl rfl ?_
  refine w_s (np := 923) (lv' := [some (eR 1), some (eR 64), some (eR 98), some (eI (i))]) (st' := [eR 1, eR 64]) rfl rfl rfl ?_
  refine w_s (np := 924) (lv' := [some (eR 1), some (eR 64), some (eR 98), some (eI (i))]) (st' := [eI (i), eR 1, eR 64]) rfl rfl rfl ?_
  refine w_s (np := 925) (lv' := [some (eR 1), some (eR 64), some (eR 98), some (eI (i))]) (st' := [eI (1), eI (i), eR 1, eR 64]) rfl rfl rfl ?_
  have w1 : ev_w (i + 1) = (i + 1) := ev_w_in (by omega) (by omega)
  refine w_s (np := 926) (lv' := [some (eR 1), some (eR 64), some (eR 98), some (eI (i))]) (st' := [eI (i + 1), eR 1, eR 64]) rfl (congrArg (fun q : Int => (some ([some (eR 1), some (eR 64), some (eR 98), some (eI (i))], eI q :: [eR 1, eR 64]) : Option (List (Option eV) × List eV))) w1) rfl ?_
  refine w_al (np := 927) (v := ρ (i + 1).toNat) rfl rfl (lw_sc hL (by omega) (by omega)) ?_
  refine w_s (np := 928) (lv' := [some (eR 1), some (eR 64), some (eR 98), some (eI (i))]) (st' := [eR 1, eI (ρ (i + 1).toNat), eR 64]) rfl rfl rfl ?_
  refine w_s (np := 929) (lv' := [some (eR 1), some (eR 64), some (eR 98), some (eI (i))]) (st' := [eI (i), eR 1, eI (ρ (i + 1).toNat), eR 64]) rfl rfl rfl ?_
  refine w_s (np := 930) (lv' := [some (eR 1), some (eR 64), some (eR 98), some (eI (i))]) (st' := [eI (2), eI (i), eR 1, eI (ρ (i + 1).toNat), eR 64]) rfl rfl rfl ?_
  have w2 : ev_w (i + 2) = (i + 2) := ev_w_in (by omega) (by omega)
  refine w_s (np := 931) (lv' := [some (eR 1), some (eR 64), some (eR 98), some (eI (i))]) (st' := [eI (i + 2), eR 1, eI (ρ (i + 1).toNat), eR 64]) rfl (congrArg (fun q : Int => (some ([some (eR 1), some (eR 64), some (eR 98), some (eI (i))], eI q :: [eR 1, eI (ρ (i + 1).toNat), eR 64]) : Option (List (Option eV) × List eV))) w2) rfl ?_
  refine w_al (np := 932) (v := ρ (i + 2).toNat) rfl rfl (lw_sc hL (by omega) (by omega)) ?_
  refine w_s (np := 933) (lv' := [some (eR 1), some (eR 64), some (eR 98), some (eI (i))]) (st' := [eR 1, eI (ρ (i + 2).toNat), eI (ρ (i + 1).toNat), eR 64]) rfl rfl rfl ?_
  refine w_s (np := 934) (lv' := [some (eR 1), some (eR 64), some (eR 98), some (eI (i))]) (st' := [eI (i), eR 1, eI (ρ (i + 2).toNat), eI (ρ (i + 1).toNat), eR 64]) rfl rfl rfl ?_
  refine w_s (np := 935) (lv' := [some (eR 1), some (eR 64), some (eR 98), some (eI (i))]) (st' := [eI (3), eI (i), eR 1, eI (ρ (i + 2).toNat), eI (ρ (i + 1).toNat), eR 64]) rfl rfl rfl ?_
  have w3 : ev_w (i + 3) = (i + 3) := ev_w_in (by omega) (by omega)
  refine w_s (np := 936) (lv' := [some (eR 1), some (eR 64), some (eR 98), some (eI (i))]) (st' := [eI (i + 3), eR 1, eI (ρ (i + 2).toNat), eI (ρ (i + 1).toNat), eR 64]) rfl (congrArg (fun q : Int => (some ([some (eR 1), some (eR 64), some (eR 98), some (eI (i))], eI q :: [eR 1, eI (ρ (i + 2).toNat), eI (ρ (i + 1).toNat), eR 64]) : Option (List (Option eV) × List eV))) w3) rfl ?_
  refine w_al (np := 937) (v := ρ (i + 3).toNat) rfl rfl (lw_sc hL (by omega) (by omega)) ?_
  refine w_cw (np := 940) (as := [eI (ρ (i + 1).toNat), eI (ρ (i + 2).toNat), eI (ρ (i + 3).toNat)]) (l2 := [some (eR 64), some (eI (ρ (i + 1).toNat)), some (eI (ρ (i + 2).toNat)), some (eI (ρ (i + 3).toNat)), none]) (rest := []) rfl rfl rfl (Nat.ble_eq.mp rfl) rfl rfl rfl (hI.kd g64 (by decide) (n := 14) rfl) rfl ?_
  refine s_176 (a1 := ρ (i + 1).toNat) (a2 := ρ (i + 2).toNat) (a3 := ρ (i + 3).toNat) hI g64 (hρ _) (hρ _) (hρ _)  ?_
  intro g6 m7 v4 E8 I9 F10 b5
  have p11 := RP.fr hP F10 rfl
  have b12 := HB.fr hB g64 F10 rfl
  have G17 := E8.p
  have p15 := p11.go I9 G17
  have b16 := b12.go G17
  have g13 : g6 64 = 1 := E8.g g64 (by decide)
  have g14 : g6 98 = 52 := E8.g g98 (by decide)
  have e18 : m7.1 64 10 = μ.1 64 10 := F10.k rfl g64 (by decide) rfl
  show ex_q (dt_fg L ρ) rc (d + 14, (0, 940, [some (eR 1), some (eR 64), some (eR 98), some (eI (i))], [eI v4]), F, m7)
  refine w_s (np := 941) (lv' := [some (eR 1), some (eR 64), some (eR 98), some (eI (i))]) (st' := []) rfl rfl rfl ?_
  refine w_s (np := 942) (lv' := [some (eR 1), some (eR 64), some (eR 98), some (eI (i))]) (st' := [eR 98]) rfl rfl rfl ?_
  refine w_s (np := 943) (lv' := [some (eR 1), some (eR 64), some (eR 98), some (eI (i))]) (st' := [eR 1, eR 98]) rfl rfl rfl ?_
  refine w_s (np := 944) (lv' := [some (eR 1), some (eR 64), some (eR 98), some (eI (i))]) (st' := [eI (i), eR 1, eR 98]) rfl rfl rfl ?_
  refine w_s (np := 945) (lv' := [some (eR 1), some (eR 64), some (eR 98), some (eI (i))]) (st' := [eI (1), eI (i), eR 1, eR 98]) rfl rfl rfl ?_
  have w19 : ev_w (i + 1) = (i + 1) := ev_w_in (by omega) (by omega)
  refine w_s (np := 946) (lv' := [some (eR 1), some (eR 64), some (eR 98), some (eI (i))]) (st' := [eI (i + 1), eR 1, eR 98]) rfl (congrArg (fun q : Int => (some ([some (eR 1), some (eR 64), some (eR 98), some (eI (i))], eI q :: [eR 1, eR 98]) : Option (List (Option eV) × List eV))) w19) rfl ?_
  refine w_al (np := 947) (v := ρ (i + 1).toNat) rfl rfl (lw_sc hL (by omega) (by omega)) ?_
  refine w_s (np := 948) (lv' := [some (eR 1), some (eR 64), some (eR 98), some (eI (i))]) (st' := [eR 1, eI (ρ (i + 1).toNat), eR 98]) rfl rfl rfl ?_
  refine w_s (np := 949) (lv' := [some (eR 1), some (eR 64), some (eR 98), some (eI (i))]) (st' := [eI (i), eR 1, eI (ρ (i + 1).toNat), eR 98]) rfl rfl rfl ?_
  refine w_s (np := 950) (lv' := [some (eR 1), some (eR 64), some (eR 98), some (eI (i))]) (st' := [eI (2), eI (i), eR 1, eI (ρ (i + 1).toNat), eR 98]) rfl rfl rfl ?_
  have w20 : ev_w (i + 2) = (i + 2) := ev_w_in (by omega) (by omega)
  refine w_s (np := 951) (lv' := [some (eR 1), some (eR 64), some (eR 98), some (eI (i))]) (st' := [eI (i + 2), eR 1, eI (ρ (i + 1).toNat), eR 98]) rfl (congrArg (fun q : Int => (some ([some (eR 1), some (eR 64), some (eR 98), some (eI (i))], eI q :: [eR 1, eI (ρ (i + 1).toNat), eR 98]) : Option (List (Option eV) × List eV))) w20) rfl ?_
  refine w_al (np := 952) (v := ρ (i + 2).toNat) rfl rfl (lw_sc hL (by omega) (by omega)) ?_
  refine w_s (np := 953) (lv' := [some (eR 1), some (eR 64), some (eR 98), some (eI (i))]) (st' := [eR 1, eI (ρ (i + 2).toNat), eI (ρ (i + 1).toNat), eR 98]) rfl rfl rfl ?_
  refine w_s (np := 954) (lv' := [some (eR 1), some (eR 64), some (eR 98), some (eI (i))]) (st' := [eI (i), eR 1, eI (ρ (i + 2).toNat), eI (ρ (i + 1).toNat), eR 98]) rfl rfl rfl ?_
  refine w_s (np := 955) (lv' := [some (eR 1), some (eR 64), some (eR 98), some (eI (i))]) (st' := [eI (3), eI (i), eR 1, eI (ρ (i + 2).toNat), eI (ρ (i + 1).toNat), eR 98]) rfl rfl rfl ?_
  have w21 : ev_w (i + 3) = (i + 3) := ev_w_in (by omega) (by omega)
  refine w_s (np := 956) (lv' := [some (eR 1), some (eR 64), some (eR 98), some (eI (i))]) (st' := [eI (i + 3), eR 1, eI (ρ (i + 2).toNat), eI (ρ (i + 1).toNat), eR 98]) rfl (congrArg (fun q : Int => (some ([some (eR 1), some (eR 64), some (eR 98), some (eI (i))], eI q :: [eR 1, eI (ρ (i + 2).toNat), eI (ρ (i + 1).toNat), eR 98]) : Option (List (Option eV) × List eV))) w21) rfl ?_
  refine w_al (np := 957) (v := ρ (i + 3).toNat) rfl rfl (lw_sc hL (by omega) (by omega)) ?_
  refine w_cw (np := 960) (as := [eI (ρ (i + 1).toNat), eI (ρ (i + 2).toNat), eI (ρ (i + 3).toNat)]) (l2 := [some (eR 98), some (eI (ρ (i + 1).toNat)), some (eI (ρ (i + 2).toNat)), some (eI (ρ (i + 3).toNat)), none, none, none, none, none]) (rest := []) rfl rfl rfl (Nat.ble_eq.mp rfl) rfl rfl rfl (I9.kd g14 (by decide) (n := 69) rfl) rfl ?_
  refine s_289 (a1 := ρ (i + 1).toNat) (a2 := ρ (i + 2).toNat) (a3 := ρ (i + 3).toNat) I9 g14 (hρ _) (hρ _) (hρ _) p15.2.2.1 p15.2.2.2.1 p15.2.2.2.2.1 ?_
  intro m24 v22 I25 F26 b23
  have p27 : RP g6 m24 := RP.fr p15 F26 rfl
  have b28 := HB.fr b16 g13 F26 rfl
  have e29 : m24.1 64 10 = m7.1 64 10 := F26.k rfl g13 (by decide) rfl
  show ex_q (dt_fg L ρ) rc (d + 14, (0, 960, [some (eR 1), some (eR 64), some (eR 98), some (eI (i))], [eI v22]), F, m24)
  refine w_s (np := 961) (lv' := [some (eR 1), some (eR 64), some (eR 98), some (eI (i))]) (st' := []) rfl rfl rfl ?_
  refine w_go (t1 := 1788) rfl rfl ?_
  exact K g6 m24 G17 I25 p27 b28 (by have h0z := F10.1; have h1z := F26.1; omega) (Or.inl ⟨(by have h0z := F10.2.1; have h1z := F26.2.1; omega), fun q => (by rw [e29, e18]; exact q)⟩)
theorem o_23 {L : Nat} {ρ : Nat → Int} {rc : eQ} {d : Nat} {F : List eFr} {μ : eM} {g : Nat → Nat} {i : Int} (hL : L ≤ 4096) (hρ : ∀ j, -2147483648 ≤ ρ j ∧ ρ j ≤ 2147483647) (hi : 0 ≤ i ∧ i + 8 ≤ (L : Int)) (hI : SI g μ) (g64 : g 64 = 1) (g98 : g 98 = 52) (hP : RP g μ) (hB : HB g μ 64) (K : ∀ (g2 : Nat → Nat) (m : eM), GP g g2 → SI g2 m → RP g2 m → HB g2 m 64 → m.2.1.length ≤ μ.2.1.length + 250 → (m.2.2 ≤ μ.2.2 + 10281 ∧ (μ.1 64 10 ≠ 0 → m.1 64 10 ≠ 0) ∨ μ.1 64 10 = 0 ∧ m.1 64 10 ≠ 0 ∧ m.2.2 ≤ μ.2.2 + 19700) → ex_q (dt_fg L ρ) rc (d + 14, (0, 1788, [some (eR 1), some (eR 64), some (eR 98), some (eI (i))], []), F, m)) : ex_q (dt_fg L ρ) rc (d + 14, (0, 1013, [some (eR 1), some (eR 64), some (eR 98), some (eI (i))], []), F, μ) := by
  refine w_s (np := 1014) (lv' := [some (eR 1), some (eR 64), some (eR 98), some (eI (i))]) (st' := [eR 64]) rfl rfl rfl ?_
  refine w_s (np := 1015) (lv' := [some (eR 1), some (eR 64), some (eR 98), some (eI (i))]) (st' := [eR 1, eR 64]) rfl rfl rfl ?_
  refine w_s (np := 1016) (lv' := [some (eR 1), some (eR 64), some (eR 98), some (eI (i))]) (st' := [eI (i), eR 1, eR 64]) rfl rfl rfl ?_
  refine w_s (np := 1017) (lv' := [some (eR 1), some (eR 64), some (eR 98), some (eI (i))]) (st' := [eI (1), eI (i), eR 1, eR 64]) rfl rfl rfl ?_
  have w1 : ev_w (i + 1) = (i + 1) := ev_w_in (by omega) (by omega)
  refine w_s (np := 1018) (lv' := [some (eR 1), some (eR 64), some (eR 98), some (eI (i))]) (st' := [eI (i + 1), eR 1, eR 64]) rfl (congrArg (fun q : Int => (some ([some (eR 1), some (eR 64), some (eR 98), some (eI (i))], eI q :: [eR 1, eR 64]) : Option (List (Option eV) × List eV))) w1) rfl ?_
  refine w_al (np := 1019) (v := ρ (i + 1).toNat) rfl rfl (lw_sc hL (by omega) (by omega)) ?_
  refine w_cw (np := 1022) (as := [eI (ρ (i + 1).toNat)]) (l2 := [some (eR 64), some (eI (ρ (i + 1).toNat))]) (rest := []) rfl rfl rfl (Nat.ble_eq.mp rfl) rfl rfl rfl (hI.kd g64 (by decide) (n := 14) rfl) rfl ?_
  refine s_178 (a1 := ρ (i + 1).toNat) hI g64 (hρ _)  ?_
  intro g4 m5 v2 E6 I7 F8 b3
  have p9 := RP.fr hP F8 rfl
  have b10 := HB.fr hB g64 F8 rfl
  have G15 := E6.p
  have p13 := p9.go I7 G15
  have b14 := b10.go G15
  have g11 : g4 64 = 1 := E6.g g64 (by decide)
  have g12 : g4 98 = 52 := E6.g g98 (by decide)
  have e16 : m5.1 64 10 = μ.1 64 10 := F8.k rfl g64 (by decide) rfl
  show ex_q (dt_fg L ρ) rc (d + 14, (0, 1022, [some (eR 1), some (eR 64), some (eR 98), some (eI (i))], [eI v2]), F, m5)
  refine w_s (np := 1023) (lv' := [some (eR 1), some (eR 64), some (eR 98), some (eI (i))]) (st' := []) rfl rfl rfl ?_
  refine w_s (np := 1024) (lv' := [some (eR 1), some (eR 64), some (eR 98), some (eI (i))]) (st' := [eR 98]) rfl rfl rfl ?_
  refine w_s (np := 1025) (lv' := [some (eR 1), some (eR 64), some (eR 98), some (eI (i))]) (st' := [eR 1, eR 98]) rfl rfl rfl ?_
  refine w_s (np := 1026) (lv' := [some (eR 1), some (eR 64), some (eR 98), some (eI (i))]) (st' := [eI (i), eR 1, eR 98]) rfl rfl rfl ?_
  refine w_s (np := 1027) (lv' := [some (eR 1), some (eR 64), some (eR 98), some (eI (i))]) (st' := [eI (1), eI (i), eR 1, eR 98]) rfl rfl rfl ?_
  have w17 : ev_w (i + 1) = (i + 1) := ev_w_in (by omega) (by omega)
  refine w_s (np := 1028) (lv' := [some (eR 1), some (eR 64), some (eR 98), some (eI (i))]) (st' := [eI (i + 1), eR 1, eR 98]) rfl (congrArg (fun q : Int => (some ([some (eR 1), some (eR 64), some (eR 98), some (eI (i))], eI q :: [eR 1, eR 98]) : Option (List (Option eV) × List eV))) w17) rfl ?_
  refine w_al (np := 1029) (v := ρ (i + 1).toNat) rfl rfl (lw_sc hL (by omega) (by omega)) ?_
  refine w_cw (np := 1032) (as := [eI (ρ (i + 1).toNat)]) (l2 := [some (eR 98), some (eI (ρ (i + 1).toNat)), none, none]) (rest := []) rfl rfl rfl (Nat.ble_eq.mp rfl) rfl rfl rfl (I7.kd g12 (by decide) (n := 69) rfl) rfl ?_
  refine s_293 (a1 := ρ (i + 1).toNat) I7 g12 (hρ _) p13.2.2.1 ?_
  intro m20 v18 I21 F22 b19
  have p23 : RP g4 m20 := RP.fr p13 F22 rfl
  have b24 := HB.fr b14 g11 F22 rfl
  have e25 : m20.1 64 10 = m5.1 64 10 := F22.k rfl g11 (by decide) rfl
  show ex_q (dt_fg L ρ) rc (d + 14, (0, 1032, [some (eR 1), some (eR 64), some (eR 98), some (eI (i))], [eI v18]), F, m20)
  refine w_s (np := 1033) (lv' := [some (eR 1), some (eR 64), some (eR 98), some (eI (i))]) (st' := []) rfl rfl rfl ?_
  refine w_go (t1 := 1788) rfl rfl ?_
  exact K g4 m20 G15 I21 p23 b24 (by have h0z := F8.1; have h1z := F22.1; omega) (Or.inl ⟨(by have h0z := F8.2.1; have h1z := F22.2.1; omega), fun q => (by rw [e25, e16]; exact q)⟩)
theorem o_24 {L : Nat} {ρ : Nat → Int} {rc : eQ} {d : Nat} {F : List eFr} {μ : eM} {g : Nat → Nat} {i : Int} (hL : L ≤ 4096) (hρ : ∀ j, -2147483648 ≤ ρ j ∧ ρ j ≤ 2147483647) (hi : 0 ≤ i ∧ i + 8 ≤ (L : Int)) (hI : SI g μ) (g64 : g 64 = 1) (g98 : g 98 = 52) (hP : RP g μ) (hB : HB g μ 64) (K : ∀ (g2 : Nat → Nat) (m : eM), GP g g2 → SI g2 m → RP g2 m → HB g2 m 64 → m.2.1.length ≤ μ.2.1.length + 250 → (m.2.2 ≤ μ.2.2 + 10281 ∧ (μ.1 64 10 ≠ 0 → m.1 64 10 ≠ 0) ∨ μ.1 64 10 = 0 ∧ m.1 64 10 ≠ 0 ∧ m.2.2 ≤ μ.2.2 + 19700) → ex_q (dt_fg L ρ) rc (d + 14, (0, 1788, [some (eR 1), some (eR 64), some (eR 98), some (eI (i))], []), F, m)) : ex_q (dt_fg L ρ) rc (d + 14, (0, 1036, [some (eR 1), some (eR 64), some (eR 98), some (eI (i))], []), F, μ) := by
  refine w_s (np := 1037) (lv' := [some (eR 1), some (eR 64), some (eR 98), some (eI (i))]) (st' := [eR 64]) rfl rfl rfl ?_
  refine w_s (np := 1038) (lv' := [some (eR 1), some (eR 64), some (eR 98), some (eI (i))]) (st' := [eR 1, eR 64]) rfl rfl rfl ?_
  refine w_s (np := 1039) (lv' := [some (eR 1), some (eR 64), some (eR 98), some (eI (i))]) (st' := [eI (i), eR 1, eR 64]) rfl rfl rfl ?_
  refine w_s (np := 1040) (lv' := [some (eR 1), some (eR 64), some (eR 98), some (eI (i))]) (st' := [eI (1), eI (i), eR 1, eR 64]) rfl rfl rfl ?_
  have w1 : ev_w (i + 1) = (i + 1) := ev_w_in (by omega) (by omega)
  refine w_s (np := 1041) (lv' := [some (eR 1), some (eR 64), some (eR 98), some (eI (i))]) (st' := [eI (i + 1), eR 1, eR 64]) rfl (congrArg (fun q : Int => (some ([some (eR 1), some (eR 64), some (eR 98), some (eI (i))], eI q :: [eR 1, eR 64]) : Option (List (Option eV) × List eV))) w1) rfl ?_
  refine w_al (np := 1042) (v := ρ (i + 1).toNat) rfl rfl (lw_sc hL (by omega) (by omega)) ?_
  refine w_cw (np := 1045) (as := [eI (ρ (i + 1).toNat)]) (l2 := [some (eR 64), some (eI (ρ (i + 1).toNat))]) (rest := []) rfl rfl rfl (Nat.ble_eq.mp rfl) rfl rfl rfl (hI.kd g64 (by decide) (n := 14) rfl) rfl ?_
  refine s_179 (a1 := ρ (i + 1).toNat) hI g64 (hρ _)  ?_
  intro g4 m5 v2 E6 I7 F8 b3
  have p9 := RP.fr hP F8 rfl
  have b10 := HB.fr hB g64 F8 rfl
  have G15 := E6.p
  have p13 := p9.go I7 G15
  have b14 := b10.go G15
  have g11 : g4 64 = 1 := E6.g g64 (by decide)
  have g12 : g4 98 = 52 := E6.g g98 (by decide)
  have e16 : m5.1 64 10 = μ.1 64 10 := F8.k rfl g64 (by decide) rfl
  show ex_q (dt_fg L ρ) rc (d + 14, (0, 1045, [some (eR 1), some (eR 64), some (eR 98), some (eI (i))], [eI v2]), F, m5)
  refine w_s (np := 1046) (lv' := [some (eR 1), some (eR 64), some (eR 98), some (eI (i))]) (st' := []) rfl rfl rfl ?_
  refine w_s (np := 1047) (lv' := [some (eR 1), some (eR 64), some (eR 98), some (eI (i))]) (st' := [eR 98]) rfl rfl rfl ?_
  refine w_s (np := 1048) (lv' := [some (eR 1), some (eR 64), some (eR 98), some (eI (i))]) (st' := [eR 1, eR 98]) rfl rfl rfl ?_
  refine w_s (np := 1049) (lv' := [some (eR 1), some (eR 64), some (eR 98), some (eI (i))]) (st' := [eI (i), eR 1, eR 98]) rfl rfl rfl ?_
  refine w_s (np := 1050) (lv' := [some (eR 1), some (eR 64), some (eR 98), some (eI (i))]) (st' := [eI (1), eI (i), eR 1, eR 98]) rfl rfl rfl ?_
  have w17 : ev_w (i + 1) = (i + 1) := ev_w_in (by omega) (by omega)
  refine w_s (np := 1051) (lv' := [some (eR 1), some (eR 64), some (eR 98), some (eI (i))]) (st' := [eI (i + 1), eR 1, eR 98]) rfl (congrArg (fun q : Int => (some ([some (eR 1), some (eR 64), some (eR 98), some (eI (i))], eI q :: [eR 1, eR 98]) : Option (List (Option eV) × List eV))) w17) rfl ?_
  refine w_al (np := 1052) (v := ρ (i + 1).toNat) rfl rfl (lw_sc hL (by omega) (by omega)) ?_
  refine w_cw (np := 1055) (as := [eI (ρ (i + 1).toNat)]) (l2 := [some (eR 98), some (eI (ρ (i + 1).toNat)), none, none]) (rest := []) rfl rfl rfl (Nat.ble_eq.mp rfl) rfl rfl rfl (I7.kd g12 (by decide) (n := 69) rfl) rfl ?_
  refine s_294 (a1 := ρ (i + 1).toNat) I7 g12 (hρ _)  ?_
  intro m20 v18 I21 F22 b19
  have p23 : RP g4 m20 := RP.fr p13 F22 rfl
  have b24 := HB.fr b14 g11 F22 rfl
  have e25 : m20.1 64 10 = m5.1 64 10 := F22.k rfl g11 (by decide) rfl
  show ex_q (dt_fg L ρ) rc (d + 14, (0, 1055, [some (eR 1), some (eR 64), some (eR 98), some (eI (i))], [eI v18]), F, m20)
  refine w_s (np := 1056) (lv' := [some (eR 1), some (eR 64), some (eR 98), some (eI (i))]) (st' := []) rfl rfl rfl ?_
  refine w_go (t1 := 1788) rfl rfl ?_
  exact K g4 m20 G15 I21 p23 b24 (by have h0z := F8.1; have h1z := F22.1; omega) (Or.inl ⟨(by have h0z := F8.2.1; have h1z := F22.2.1; omega), fun q => (by rw [e25, e16]; exact q)⟩)
theorem o_25 {L : Nat} {ρ : Nat → Int} {rc : eQ} {d : Nat} {F : List eFr} {μ : eM} {g : Nat → Nat} {i : Int} (hL : L ≤ 4096) (hρ : ∀ j, -2147483648 ≤ ρ j ∧ ρ j ≤ 2147483647) (hi : 0 ≤ i ∧ i + 8 ≤ (L : Int)) (hI : SI g μ) (g64 : g 64 = 1) (g98 : g 98 = 52) (hP : RP g μ) (hB : HB g μ 64) (K : ∀ (g2 : Nat → Nat) (m : eM), GP g g2 → SI g2 m → RP g2 m → HB g2 m 64 → m.2.1.length ≤ μ.2.1.length + 250 → (m.2.2 ≤ μ.2.2 + 10281 ∧ (μ.1 64 10 ≠ 0 → m.1 64 10 ≠ 0) ∨ μ.1 64 10 = 0 ∧ m.1 64 10 ≠ 0 ∧ m.2.2 ≤ μ.2.2 + 19700) → ex_q (dt_fg L ρ) rc (d + 14, (0, 1788, [some (eR 1), some (eR 64), some (eR 98), some (eI (i))], []), F, m)) : ex_q (dt_fg L ρ) rc (d + 14, (0, 1059, [some (eR 1), some (eR 64), some (eR 98), some (eI (i))], []), F, μ) := by
  refine w_s (np := 1060) (lv' := [some (eR 1), some (eR 64), some (eR 98), some (eI (i))]) (st' := [eR 64]) rfl rfl rfl ?_
  refine w_s (np := 1061) (lv' := [some (eR 1), some (eR 64), some (eR 98), some (eI (i))]) (st' := [eR 1, eR 64]) rfl rfl rfl ?_
  refine w_s (np := 1062) (lv' := [some (eR 1), some (eR 64), some (eR 98), some (eI (i))]) (st' := [eI (i), eR 1, eR 64]) rfl rfl rfl ?_
  refine w_s (np := 1063) (lv' := [some (eR 1), some (eR 64), some (eR 98), some (eI (i))]) (st' := [eI (1), eI (i), eR 1, eR 64]) rfl rfl rfl ?_
  have w1 : ev_w (i + 1) = (i + 1) := ev_w_in (by omega) (by omega)
  refine w_s (np := 1064) (lv' := [some (eR 1), some (eR 64), some (eR 98), some (eI (i))]) (st' := [eI (i + 1), eR 1, eR 64]) rfl (congrArg (fun q : Int => (some ([some (eR 1), some (eR 64), some (eR 98), some (eI (i))], eI q :: [eR 1, eR 64]) : Option (List (Option eV) × List eV))) w1) rfl ?_
  refine w_al (np := 1065) (v := ρ (i + 1).toNat) rfl rfl (lw_sc hL (by omega) (by omega)) ?_
  refine w_s (np := 1066) (lv' := [some (eR 1), some (eR 64), some (eR 98), some (eI (i))]) (st' := [eR 1, eI (ρ (i + 1).toNat), eR 64]) rfl rfl rfl ?_
  refine w_s (np := 1067) (lv' := [some (eR 1), some (eR 64), some (eR 98), some (eI (i))]) (st' := [eI (i), eR 1, eI (ρ (i + 1).toNat), eR 64]) rfl rfl rfl ?_
  refine w_s (np := 1068) (lv' := [some (eR 1), some (eR 64), some (eR 98), some (eI (i))]) (st' := [eI (2), eI (i), eR 1, eI (ρ (i + 1).toNat), eR 64]) rfl rfl rfl ?_
  have w2 : ev_w (i + 2) = (i + 2) := ev_w_in (by omega) (by omega)
  refine w_s (np := 1069) (lv' := [some (eR 1), some (eR 64), some (eR 98), some (eI (i))]) (st' := [eI (i + 2), eR 1, eI (ρ (i + 1).toNat), eR 64]) rfl (congrArg (fun q : Int => (some ([some (eR 1), some (eR 64), some (eR 98), some (eI (i))], eI q :: [eR 1, eI (ρ (i + 1).toNat), eR 64]) : Option (List (Option eV) × List eV))) w2) rfl ?_
  refine w_al (np := 1070) (v := ρ (i + 2).toNat) rfl rfl (lw_sc hL (by omega) (by omega)) ?_
  refine w_cw (np := 1073) (as := [eI (ρ (i + 1).toNat), eI (ρ (i + 2).toNat)]) (l2 := [some (eR 64), some (eI (ρ (i + 1).toNat)), some (eI (ρ (i + 2).toNat))]) (rest := []) rfl rfl rfl (Nat.ble_eq.mp rfl) rfl rfl rfl (hI.kd g64 (by decide) (n := 14) rfl) rfl ?_
  refine s_180 (a1 := ρ (i + 1).toNat) (a2 := ρ (i + 2).toNat) hI g64 (hρ _) (hρ _)  ?_
  intro g5 m6 v3 E7 I8 F9 b4
  have p10 := RP.fr hP F9 rfl
  have b11 := HB.fr hB g64 F9 rfl
  have G16 := E7.p
  have p14 := p10.go I8 G16
  have b15 := b11.go G16
  have g12 : g5 64 = 1 := E7.g g64 (by decide)
  have g13 : g5 98 = 52 := E7.g g98 (by decide)
  have e17 : m6.1 64 10 = μ.1 64 10 := F9.k rfl g64 (by decide) rfl
  show ex_q (dt_fg L ρ) rc (d + 14, (0, 1073, [some (eR 1), some (eR 64), some (eR 98), some (eI (i))], [eI v3]), F, m6)
  refine w_s (np := 1074) (lv' := [some (eR 1), some (eR 64), some (eR 98), some (eI (i))]) (st' := []) rfl rfl rfl ?_
  refine w_s (np := 1075) (lv' := [some (eR 1), some (eR 64), some (eR 98), some (eI (i))]) (st' := [eR 98]) rfl rfl rfl ?_
  refine w_s (np := 1076) (lv' := [some (eR 1), some (eR 64), some (eR 98), some (eI (i))]) (st' := [eR 1, eR 98]) rfl rfl rfl ?_
  refine w_s (np := 1077) (lv' := [some (eR 1), some (eR 64), some (eR 98), some (eI (i))]) (st' := [eI (i), eR 1, eR 98]) rfl rfl rfl ?_
  refine w_s (np := 1078) (lv' := [some (eR 1), some (eR 64), some (eR 98), some (eI (i))]) (st' := [eI (1), eI (i), eR 1, eR 98]) rfl rfl rfl ?_
  have w18 : ev_w (i + 1) = (i + 1) := ev_w_in (by omega) (by omega)
  refine w_s (np := 1079) (lv' := [some (eR 1), some (eR 64), some (eR 98), some (eI (i))]) (st' := [eI (i + 1), eR 1, eR 98]) rfl (congrArg (fun q : Int => (some ([some (eR 1), some (eR 64), some (eR 98), some (eI (i))], eI q :: [eR 1, eR 98]) : Option (List (Option eV) × List eV))) w18) rfl ?_
  refine w_al (np := 1080) (v := ρ (i + 1).toNat) rfl rfl (lw_sc hL (by omega) (by omega)) ?_
  refine w_s (np := 1081) (lv' := [some (eR 1), some (eR 64), some (eR 98), some (eI (i))]) (st' := [eR 1, eI (ρ (i + 1).toNat), eR 98]) rfl rfl rfl ?_
  refine w_s (np := 1082) (lv' := [some (eR 1), some (eR 64), some (eR 98), some (eI (i))]) (st' := [eI (i), eR 1, eI (ρ (i + 1).toNat), eR 98]) rfl rfl rfl ?_
  refine w_s (np := 1083) (lv' := [some (eR 1), some (eR 64), some (eR 98), some (eI (i))]) (st' := [eI (2), eI (i), eR 1, eI (ρ (i + 1).toNat), eR 98]) rfl rfl rfl ?_
  have w19 : ev_w (i + 2) = (i + 2) := ev_w_in (by omega) (by omega)
  refine w_s (np := 1084) (lv' := [some (eR 1), some (eR 64), some (eR 98), some (eI (i))]) (st' := [eI (i + 2), eR 1, eI (ρ (i + 1).toNat), eR 98]) rfl (congrArg (fun q : Int => (some ([some (eR 1), some (eR 64), some (eR 98), some (eI (i))], eI q :: [eR 1, eI (ρ (i + 1).toNat), eR 98]) : Option (List (Option eV) × List eV))) w19) rfl ?_
  refine w_al (np := 1085) (v := ρ (i + 2).toNat) rfl rfl (lw_sc hL (by omega) (by omega)) ?_
  refine w_cw (np := 1088) (as := [eI (ρ (i + 1).toNat), eI (ρ (i + 2).toNat)]) (l2 := [some (eR 98), some (eI (ρ (i + 1).toNat)), some (eI (ρ (i + 2).toNat))]) (rest := []) rfl rfl rfl (Nat.ble_eq.mp rfl) rfl rfl rfl (I8.kd g13 (by decide) (n := 69) rfl) rfl ?_
  refine s_295 (a1 := ρ (i + 1).toNat) (a2 := ρ (i + 2).toNat) I8 g13 (hρ _) (hρ _)  ?_
  intro m22 v20 I23 F24 b21
  have p25 : RP g5 m22 := RP.fr p14 F24 rfl
  have b26 := HB.fr b15 g12 F24 rfl
  have e27 : m22.1 64 10 = m6.1 64 10 := F24.k rfl g12 (by decide) rfl
  show ex_q (dt_fg L ρ) rc (d + 14, (0, 1088, [some (eR 1), some (eR 64), some (eR 98), some (eI (i))], [eI v20]), F, m22)
  refine w_s (np := 1089) (lv' := [some (eR 1), some (eR 64), some (eR 98), some (eI (i))]) (st' := []) rfl rfl rfl ?_
  refine w_go (t1 := 1788) rfl rfl ?_
  exact K g5 m22 G16 I23 p25 b26 (by have h0z := F9.1; have h1z := F24.1; omega) (Or.inl ⟨(by have h0z := F9.2.1; have h1z := F24.2.1; omega), fun q => (by rw [e27, e17]; exact q)⟩)
theorem o_26 {L : Nat} {ρ : Nat → Int} {rc : eQ} {d : Nat} {F : List eFr} {μ : eM} {g : Nat → Nat} {i : Int} (hL : L ≤ 4096) (hρ : ∀ j, -2147483648 ≤ ρ j ∧ ρ j ≤ 2147483647) (hi : 0 ≤ i ∧ i + 8 ≤ (L : Int)) (hI : SI g μ) (g64 : g 64 = 1) (g98 : g 98 = 52) (hP : RP g μ) (hB : HB g μ 64) (K : ∀ (g2 : Nat → Nat) (m : eM), GP g g2 → SI g2 m → RP g2 m → HB g2 m 64 → m.2.1.length ≤ μ.2.1.length + 250 → (m.2.2 ≤ μ.2.2 + 10281 ∧ (μ.1 64 10 ≠ 0 → m.1 64 10 ≠ 0) ∨ μ.1 64 10 = 0 ∧ m.1 64 10 ≠ 0 ∧ m.2.2 ≤ μ.2.2 + 19700) → ex_q (dt_fg L ρ) rc (d + 14, (0, 1788, [some (eR 1), some (eR 64), some (eR 98), some (eI (i))], []), F, m)) : ex_q (dt_fg L ρ) rc (d + 14, (0, 1092, [some (eR 1), some (eR 64), some (eR 98), some (eI (i))], []), F, μ) := by
  refine w_s (np := 1093) (lv' := [some (eR 1), some (eR 64), some (eR 98), some (eI (i))]) (st' := [eR 64]) rfl rfl rfl ?_
  refine w_s (np := 1094) (lv' := [some (eR 1), some (eR 64), some (eR 98), some (eI (i))]) (st' := [eR 1, eR 64]) rfl rfl rfl ?_
  refine w_s (np := 1095) (lv' := [some (eR 1), some (eR 64), some (eR 98), some (eI (i))]) (st' := [eI (i), eR 1, eR 64]) rfl rfl rfl ?_
  refine w_s (np := 1096) (lv' := [some (eR 1), some (eR 64), some (eR 98), some (eI (i))]) (st' := [eI (1), eI (i), eR 1, eR 64]) rfl rfl rfl ?_
  have w1 : ev_w (i + 1) = (i + 1) := ev_w_in (by omega) (by omega)
  refine w_s (np := 1097) (lv' := [some (eR 1), some (eR 64), some (eR 98), some (eI (i))]) (st' := [eI (i + 1), eR 1, eR 64]) rfl (congrArg (fun q : Int => (some ([some (eR 1), some (eR 64), some (eR 98), some (eI (i))], eI q :: [eR 1, eR 64]) : Option (List (Option eV) × List eV))) w1) rfl ?_
  refine w_al (np := 1098) (v := ρ (i + 1).toNat) rfl rfl (lw_sc hL (by omega) (by omega)) ?_
  refine w_s (np := 1099) (lv' := [some (eR 1), some (eR 64), some (eR 98), some (eI (i))]) (st' := [eR 1, eI (ρ (i + 1).toNat), eR 64]) rfl rfl rfl ?_
  refine w_s (np := 1100) (lv' := [some (eR 1), some (eR 64), some (eR 98), some (eI (i))]) (st' := [eI (i), eR 1, eI (ρ (i + 1).toNat), eR 64]) rfl rfl rfl ?_
  refine w_s (np := 1101) (lv' := [some (eR 1), some (eR 64), some (eR 98), some (eI (i))]) (st' := [eI (2), eI (i), eR 1, eI (ρ (i + 1).toNat), eR 64]) rfl rfl rfl ?_
  have w2 : ev_w (i + 2) = (i + 2) := ev_w_in (by omega) (by omega)
  refine w_s (np := 1102) (lv' := [some (eR 1), some (eR 64), some (eR 98), some (eI (i))]) (st' := [eI (i + 2), eR 1, eI (ρ (i + 1).toNat), eR 64]) rfl (congrArg (fun q : Int => (some ([some (eR 1), some (eR 64), some (eR 98), some (eI (i))], eI q :: [eR 1, eI (ρ (i + 1).toNat), eR 64]) : Option (List (Option eV) × List eV))) w2) rfl ?_
  refine w_al (np := 1103) (v := ρ (i + 2).toNat) rfl rfl (lw_sc hL (by omega) (by omega)) ?_
  refine w_cw (np := 1106) (as := [eI (ρ (i + 1).toNat), eI (ρ (i + 2).toNat)]) (l2 := [some (eR 64), some (eI (ρ (i + 1).toNat)), some (eI (ρ (i + 2).toNat))]) (rest := []) rfl rfl rfl (Nat.ble_eq.mp rfl) rfl rfl rfl (hI.kd g64 (by decide) (n := 14) rfl) rfl ?_
  refine s_181 (a1 := ρ (i + 1).toNat) (a2 := ρ (i + 2).toNat) hI g64 (hρ _) (hρ _)  ?_
  intro g5 m6 v3 E7 I8 F9 b4
  have p10 := RP.fr hP F9 rfl
  have b11 := HB.fr hB g64 F9 rfl
  have G16 := E7.p
  have p14 := p10.go I8 G16
  have b15 := b11.go G16
  have g12 : g5 64 = 1 := E7.g g64 (by decide)
  have g13 : g5 98 = 52 := E7.g g98 (by decide)
  have e17 : m6.1 64 10 = μ.1 64 10 := F9.k rfl g64 (by decide) rfl
  show ex_q (dt_fg L ρ) rc (d + 14, (0, 1106, [some (eR 1), some (eR 64), some (eR 98), some (eI (i))], [eI v3]), F, m6)
  refine w_s (np := 1107) (lv' := [some (eR 1), some (eR 64), some (eR 98), some (eI (i))]) (st' := []) rfl rfl rfl ?_
  refine w_s (np := 1108) (lv' := [some (eR 1), some (eR 64), some (eR 98), some (eI (i))]) (st' := [eR 98]) rfl rfl rfl ?_
  refine w_s (np := 1109) (lv' := [some (eR 1), some (eR 64), some (eR 98), some (eI (i))]) (st' := [eR 1, eR 98]) rfl rfl rfl ?_
  refine w_s (np := 1110) (lv' := [some (eR 1), some (eR 64), some (eR 98), some (eI (i))]) (st' := [eI (i), eR 1, eR 98]) rfl rfl rfl ?_
  refine w_s (np := 1111) (lv' := [some (eR 1), some (eR 64), some (eR 98), some (eI (i))]) (st' := [eI (1), eI (i), eR 1, eR 98]) rfl rfl rfl ?_
  have w18 : ev_w (i + 1) = (i + 1) := ev_w_in (by omega) (by omega)
  refine w_s (np := 1112) (lv' := [some (eR 1), some (eR 64), some (eR 98), some (eI (i))]) (st' := [eI (i + 1), eR 1, eR 98]) rfl (congrArg (fun q : Int => (some ([some (eR 1), some (eR 64), some (eR 98), some (eI (i))], eI q :: [eR 1, eR 98]) : Option (List (Option eV) × List eV))) w18) rfl ?_
  refine w_al (np := 1113) (v := ρ (i + 1).toNat) rfl rfl (lw_sc hL (by omega) (by omega)) ?_
  refine w_s (np := 1114) (lv' := [some (eR 1), some (eR 64), some (eR 98), some (eI (i))]) (st' := [eR 1, eI (ρ (i + 1).toNat), eR 98]) rfl rfl rfl ?_
  refine w_s (np := 1115) (lv' := [some (eR 1), some (eR 64), some (eR 98), some (eI (i))]) (st' := [eI (i), eR 1, eI (ρ (i + 1).toNat), eR 98]) rfl rfl rfl ?_
  refine w_s (np := 1116) (lv' := [some (eR 1), some (eR 64), some (eR 98), some (eI (i))]) (st' := [eI (2), eI (i), eR 1, eI (ρ (i + 1).toNat), eR 98]) rfl rfl rfl ?_
  have w19 : ev_w (i + 2) = (i + 2) := ev_w_in (by omega) (by omega)
  refine w_s (np := 1117) (lv' := [some (eR 1), some (eR 64), some (eR 98), some (eI (i))]) (st' := [eI (i + 2), eR 1, eI (ρ (i + 1).toNat), eR 98]) rfl (congrArg (fun q : Int => (some ([some (eR 1), some (eR 64), some (eR 98), some (eI (i))], eI q :: [eR 1, eI (ρ (i + 1).toNat), eR 98]) : Option (List (Option eV) × List eV))) w19) rfl ?_
  refine w_al (np := 1118) (v := ρ (i + 2).toNat) rfl rfl (lw_sc hL (by omega) (by omega)) ?_
  refine w_cw (np := 1121) (as := [eI (ρ (i + 1).toNat), eI (ρ (i + 2).toNat)]) (l2 := [some (eR 98), some (eI (ρ (i + 1).toNat)), some (eI (ρ (i + 2).toNat)), none]) (rest := []) rfl rfl rfl (Nat.ble_eq.mp rfl) rfl rfl rfl (I8.kd g13 (by decide) (n := 69) rfl) rfl ?_
  refine s_296 (a1 := ρ (i + 1).toNat) (a2 := ρ (i + 2).toNat) I8 g13 (hρ _) (hρ _) p14.2.1 p14.2.2.2.2.2.2.1 ?_
  intro m22 v20 I23 F24 b21
  have p25 : RP g5 m22 := RP.fr p14 F24 rfl
  have b26 := HB.fr b15 g12 F24 rfl
  have e27 : m22.1 64 10 = m6.1 64 10 := F24.k rfl g12 (by decide) rfl
  show ex_q (dt_fg L ρ) rc (d + 14, (0, 1121, [some (eR 1), some (eR 64), some (eR 98), some (eI (i))], [eI v20]), F, m22)
  refine w_s (np := 1122) (lv' := [some (eR 1), some (eR 64), some (eR 98), some (eI (i))]) (st' := []) rfl rfl rfl ?_
  refine w_go (t1 := 1788) rfl rfl ?_
  exact K g5 m22 G16 I23 p25 b26 (by have h0z := F9.1; have h1z := F24.1; omega) (Or.inl ⟨(by have h0z := F9.2.1; have h1z := F24.2.1; omega), fun q => (by rw [e27, e17]; exact q)⟩)
theorem o_27 {L : Nat} {ρ : Nat → Int} {rc : eQ} {d : Nat} {F : List eFr} {μ : eM} {g : Nat → Nat} {i : Int} (hL : L ≤ 4096) (hρ : ∀ j, -2147483648 ≤ ρ j ∧ ρ j ≤ 2147483647) (hi : 0 ≤ i ∧ i + 8 ≤ (L : Int)) (hI : SI g μ) (g64 : g 64 = 1) (g98 : g 98 = 52) (hP : RP g μ) (hB : HB g μ 64) (K : ∀ (g2 : Nat → Nat) (m : eM), GP g g2 → SI g2 m → RP g2 m → HB g2 m 64 → m.2.1.length ≤ μ.2.1.length + 250 → (m.2.2 ≤ μ.2.2 + 10281 ∧ (μ.1 64 10 ≠ 0 → m.1 64 10 ≠ 0) ∨ μ.1 64 10 = 0 ∧ m.1 64 10 ≠ 0 ∧ m.2.2 ≤ μ.2.2 + 19700) → ex_q (dt_fg L ρ) rc (d + 14, (0, 1788, [some (eR 1), some (eR 64), some (eR 98), some (eI (i))], []), F, m)) : ex_q (dt_fg L ρ) rc (d + 14, (0, 1125, [some (eR 1), some (eR 64), some (eR 98), some (eI (i))], []), F, μ) := by
  refine w_s (np := 1126) (lv' := [some (eR 1), some (eR 64), some (eR 98), some (eI (i))]) (st' := [eR 64]) rfl rfl rfl ?_
  refine w_s (np := 1127) (lv' := [some (eR 1), some (eR 64), some (eR 98), some (eI (i))]) (st' := [eR 1, eR 64]) rfl rfl rfl ?_
  refine w_s (np := 1128) (lv' := [some (eR 1), some (eR 64), some (eR 98), some (eI (i))]) (st' := [eI (i), eR 1, eR 64]) rfl rfl rfl ?_
  refine w_s (np := 1129) (lv' := [some (eR 1), some (eR 64), some (eR 98), some (eI (i))]) (st' := [eI (1), eI (i), eR 1, eR 64]) rfl rfl rfl ?_
  have w1 : ev_w (i + 1) = (i + 1) := ev_w_in (by omega) (by omega)
  refine w_s (np := 1130) (lv' := [some (eR 1), some (eR 64), some (eR 98), some (eI (i))]) (st' := [eI (i + 1), eR 1, eR 64]) rfl (congrArg (fun q : Int => (some ([some (eR 1), some (eR 64), some (eR 98), some (eI (i))], eI q :: [eR 1, eR 64]) : Option (List (Option eV) × List eV))) w1) rfl ?_
  refine w_al (np := 1131) (v := ρ (i + 1).toNat) rfl rfl (lw_sc hL (by omega) (by omega)) ?_
  refine w_cw (np := 1134) (as := [eI (ρ (i + 1).toNat)]) (l2 := [some (eR 64), some (eI (ρ (i + 1).toNat))]) (rest := []) rfl rfl rfl (Nat.ble_eq.mp rfl) rfl rfl rfl (hI.kd g64 (by decide) (n := 14) rfl) rfl ?_
  refine s_182 (a1 := ρ (i + 1).toNat) hI g64 (hρ _)  ?_
  intro g4 m5 v2 E6 I7 F8 b3
  have p9 := RP.fr hP F8 rfl
  have b10 := HB.fr hB g64 F8 rfl
  have G15 := E6.p
  have p13 := p9.go I7 G15
  have b14 := b10.go G15
  have g11 : g4 64 = 1 := E6.g g64 (by decide)
  have g12 : g4 98 = 52 := E6.g g98 (by decide)
  have e16 : m5.1 64 10 = μ.1 64 10 := F8.k rfl g64 (by decide) rfl
  show ex_q (dt_fg L ρ) rc (d + 14, (0, 1134, [some (eR 1), some (eR 64), some (eR 98), some (eI (i))], [eI v2]), F, m5)
  refine w_s (np := 1135) (lv' := [some (eR 1), some (eR 64), some (eR 98), some (eI (i))]) (st' := []) rfl rfl rfl ?_
  refine w_s (np := 1136) (lv' := [some (eR 1), some (eR 64), some (eR 98), some (eI (i))]) (st' := [eR 98]) rfl rfl rfl ?_
  refine w_s (np := 1137) (lv' := [some (eR 1), some (eR 64), some (eR 98), some (eI (i))]) (st' := [eR 1, eR 98]) rfl rfl rfl ?_
  refine w_s (np := 1138) (lv' := [some (eR 1), some (eR 64), some (eR 98), some (eI (i))]) (st' := [eI (i), eR 1, eR 98]) rfl rfl rfl ?_
  refine w_s (np := 1139) (lv' := [some (eR 1), some (eR 64), some (eR 98), some (eI (i))]) (st' := [eI (1), eI (i), eR 1, eR 98]) rfl rfl rfl ?_
  have w17 : ev_w (i + 1) = (i + 1) := ev_w_in (by omega) (by omega)
  refine w_s (np := 1140) (lv' := [some (eR 1), some (eR 64), some (eR 98), some (eI (i))]) (st' := [eI (i + 1), eR 1, eR 98]) rfl (congrArg (fun q : Int => (some ([some (eR 1), some (eR 64), some (eR 98), some (eI (i))], eI q :: [eR 1, eR 98]) : Option (List (Option eV) × List eV))) w17) rfl ?_
  refine w_al (np := 1141) (v := ρ (i + 1).toNat) rfl rfl (lw_sc hL (by omega) (by omega)) ?_
  refine w_cw (np := 1144) (as := [eI (ρ (i + 1).toNat)]) (l2 := [some (eR 98), some (eI (ρ (i + 1).toNat))]) (rest := []) rfl rfl rfl (Nat.ble_eq.mp rfl) rfl rfl rfl (I7.kd g12 (by decide) (n := 69) rfl) rfl ?_
  refine s_297 (a1 := ρ (i + 1).toNat) I7 g12 (hρ _) p13.2.1 ?_
  intro m20 v18 I21 F22 b19
  have p23 : RP g4 m20 := RP.fr p13 F22 rfl
  have b24 := HB.fr b14 g11 F22 rfl
  have e25 : m20.1 64 10 = m5.1 64 10 := F22.k rfl g11 (by decide) rfl
  show ex_q (dt_fg L ρ) rc (d + 14, (0, 1144, [some (eR 1), some (eR 64), some (eR 98), some (eI (i))], [eI v18]), F, m20)
  refine w_s (np := 1145) (lv' := [some (eR 1), some (eR 64), some (eR 98), some (eI (i))]) (st' := []) rfl rfl rfl ?_
  refine w_go (t1 := 1788) rfl rfl ?_
  exact K g4 m20 G15 I21 p23 b24 (by have h0z := F8.1; have h1z := F22.1; omega) (Or.inl ⟨(by have h0z := F8.2.1; have h1z := F22.2.1; omega), fun q => (by rw [e25, e16]; exact q)⟩)
theorem o_28 {L : Nat} {ρ : Nat → Int} {rc : eQ} {d : Nat} {F : List eFr} {μ : eM} {g : Nat → Nat} {i : Int} (hL : L ≤ 4096) (hρ : ∀ j, -2147483648 ≤ ρ j ∧ ρ j ≤ 2147483647) (hi : 0 ≤ i ∧ i + 8 ≤ (L : Int)) (hI : SI g μ) (g64 : g 64 = 1) (g98 : g 98 = 52) (hP : RP g μ) (hB : HB g μ 64) (K : ∀ (g2 : Nat → Nat) (m : eM), GP g g2 → SI g2 m → RP g2 m → HB g2 m 64 → m.2.1.length ≤ μ.2.1.length + 250 → (m.2.2 ≤ μ.2.2 + 10281 ∧ (μ.1 64 10 ≠ 0 → m.1 64 10 ≠ 0) ∨ μ.1 64 10 = 0 ∧ m.1 64 10 ≠ 0 ∧ m.2.2 ≤ μ.2.2 + 19700) → ex_q (dt_fg L ρ) rc (d + 14, (0, 1788, [some (eR 1), some (eR 64), some (eR 98), some (eI (i))], []), F, m)) : ex_q (dt_fg L ρ) rc (d + 14, (0, 1148, [some (eR 1), some (eR 64), some (eR 98), some (eI (i))], []), F, μ) := by
  refine w_s (np := 1149) (lv' := [some (eR 1), some (eR 64), some (eR 98), some (eI (i))]) (st' := [eR 64]) rfl rfl rfl ?_
  refine w_s (np := 1150) (lv' := [some (eR 1), some (eR 64), some (eR 98), some (eI (i))]) (st' := [eR 1, eR 64]) rfl rfl rfl ?_
  refine w_s (np := 1151) (lv' := [some (eR 1), some (eR 64), some (eR 98), some (eI (i))]) (st' := [eI (i), eR 1, eR 64]) rfl rfl rfl ?_
  refine w_s (np := 1152) (lv' := [some (eR 1), some (eR 64), some (eR 98), some (eI (i))]) (st' := [eI (1), eI (i), eR 1, eR 64]) rfl rfl rfl ?_
  have w1 : ev_w (i + 1) = (i + 1) := ev_w_in (by omega) (by omega)
  refine w_s (np := 1153) (lv' := [some (eR 1), some (eR 64), some (eR 98), some (eI (i))]) (st' := [eI (i + 1), eR 1, eR 64]) rfl (congrArg (fun q : Int => (some ([some (eR 1), some (eR 64), some (eR 98), some (eI (i))], eI q :: [eR 1, eR 64]) : Option (List (Option eV) × List eV))) w1) rfl ?_
  refine w_al (np := 1154) (v := ρ (i + 1).toNat) rfl rfl (lw_sc hL (by omega) (by omega)) ?_
  refine w_cw (np := 1157) (as := [eI (ρ (i + 1).toNat)]) (l2 := [some (eR 64), some (eI (ρ (i + 1).toNat))]) (rest := []) rfl rfl rfl (Nat.ble_eq.mp rfl) rfl rfl rfl (hI.kd g64 (by decide) (n := 14) rfl) rfl ?_
  refine s_183 (a1 := ρ (i + 1).toNat) hI g64 (hρ _)  ?_
  intro g4 m5 v2 E6 I7 F8 b3
  have p9 := RP.fr hP F8 rfl
  have b10 := HB.fr hB g64 F8 rfl
  have G15 := E6.p
  have p13 := p9.go I7 G15
  have b14 := b10.go G15
  have g11 : g4 64 = 1 := E6.g g64 (by decide)
  have g12 : g4 98 = 52 := E6.g g98 (by decide)
  have e16 : m5.1 64 10 = μ.1 64 10 := F8.k rfl g64 (by decide) rfl
  show ex_q (dt_fg L ρ) rc (d + 14, (0, 1157, [some (eR 1), some (eR 64), some (eR 98), some (eI (i))], [eI v2]), F, m5)
  refine w_s (np := 1158) (lv' := [some (eR 1), some (eR 64), some (eR 98), some (eI (i))]) (st' := []) rfl rfl rfl ?_
  refine w_s (np := 1159) (lv' := [some (eR 1), some (eR 64), some (eR 98), some (eI (i))]) (st' := [eR 98]) rfl rfl rfl ?_
  refine w_s (np := 1160) (lv' := [some (eR 1), some (eR 64), some (eR 98), some (eI (i))]) (st' := [eR 1, eR 98]) rfl rfl rfl ?_
  refine w_s (np := 1161) (lv' := [some (eR 1), some (eR 64), some (eR 98), some (eI (i))]) (st' := [eI (i), eR 1, eR 98]) rfl rfl rfl ?_
  refine w_s (np := 1162) (lv' := [some (eR 1), some (eR 64), some (eR 98), some (eI (i))]) (st' := [eI (1), eI (i), eR 1, eR 98]) rfl rfl rfl ?_
  have w17 : ev_w (i + 1) = (i + 1) := ev_w_in (by omega) (by omega)
  refine w_s (np := 1163) (lv' := [some (eR 1), some (eR 64), some (eR 98), some (eI (i))]) (st' := [eI (i + 1), eR 1, eR 98]) rfl (congrArg (fun q : Int => (some ([some (eR 1), some (eR 64), some (eR 98), some (eI (i))], eI q :: [eR 1, eR 98]) : Option (List (Option eV) × List eV))) w17) rfl ?_
  refine w_al (np := 1164) (v := ρ (i + 1).toNat) rfl rfl (lw_sc hL (by omega) (by omega)) ?_
  refine w_cw (np := 1167) (as := [eI (ρ (i + 1).toNat)]) (l2 := [some (eR 98), some (eI (ρ (i + 1).toNat)), none, none]) (rest := []) rfl rfl rfl (Nat.ble_eq.mp rfl) rfl rfl rfl (I7.kd g12 (by decide) (n := 69) rfl) rfl ?_
  refine s_298 (a1 := ρ (i + 1).toNat) I7 g12 (hρ _) p13.2.1 ?_
  intro m20 v18 I21 F22 b19
  have p23 : RP g4 m20 := RP.fr p13 F22 rfl
  have b24 := HB.fr b14 g11 F22 rfl
  have e25 : m20.1 64 10 = m5.1 64 10 := F22.k rfl g11 (by decide) rfl
  show ex_q (dt_fg L ρ) rc (d + 14, (0, 1167, [some (eR 1), some (eR 64), some (eR 98), some (eI (i))], [eI v18]), F, m20)
  refine w_s (np := 1168) (lv' := [some (eR 1), some (eR 64), some (eR 98), some (eI (i))]) (st' := []) rfl rfl rfl ?_
  refine w_go (t1 := 1788) rfl rfl ?_
  exact K g4 m20 G15 I21 p23 b24 (by have h0z := F8.1; have h1z := F22.1; omega) (Or.inl ⟨(by have h0z := F8.2.1; have h1z := F22.2.1; omega), fun q => (by rw [e25, e16]; exact q)⟩)
theorem o_29 {L : Nat} {ρ : Nat → Int} {rc : eQ} {d : Nat} {F : List eFr} {μ : eM} {g : Nat → Nat} {i : Int} (hL : L ≤ 4096) (hρ : ∀ j, -2147483648 ≤ ρ j ∧ ρ j ≤ 2147483647) (hi : 0 ≤ i ∧ i + 8 ≤ (L : Int)) (hI : SI g μ) (g64 : g 64 = 1) (g98 : g 98 = 52) (hP : RP g μ) (hB : HB g μ 64) (K : ∀ (g2 : Nat → Nat) (m : eM), GP g g2 → SI g2 m → RP g2 m → HB g2 m 64 → m.2.1.length ≤ μ.2.1.length + 250 → (m.2.2 ≤ μ.2.2 + 10281 ∧ (μ.1 64 10 ≠ 0 → m.1 64 10 ≠ 0) ∨ μ.1 64 10 = 0 ∧ m.1 64 10 ≠ 0 ∧ m.2.2 ≤ μ.2.2 + 19700) → ex_q (dt_fg L ρ) rc (d + 14, (0, 1788, [some (eR 1), some (eR 64), some (eR 98), some (eI (i))], []), F, m)) : ex_q (dt_fg L ρ) rc (d + 14, (0, 1171, [some (eR 1), some (eR 64), some (eR 98), some (eI (i))], []), F, μ) := by
  refine w_s (np := 1172) (lv' := [some (eR 1), some (eR 64), some (eR 98), some (eI (i))]) (st' := [eR 64]) rfl rfl rfl ?_
  refine w_s (np := 1173) (lv' := [some (eR 1), some (eR 64), some (eR 98), some (eI (i))]) (st' := [eR 1, eR 64]) rfl rfl rfl ?_
  refine w_s (np := 1174) (lv' := [some (eR 1), some (eR 64), some (eR 98), some (eI (i))]) (st' := [eI (i), eR 1, eR 64]) rfl rfl rfl ?_
  refine w_s (np := 1175) (lv' := [some (eR 1), some (eR 64), some (eR 98), some (eI (i))]) (st' := [eI (1), eI (i), eR 1, eR 64]) rfl rfl rfl ?_
  have w1 : ev_w (i + 1) = (i + 1) := ev_w_in (by omega) (by omega)
  refine w_s (np := 1176) (lv' := [some (eR 1), some (eR 64), some (eR 98), some (eI (i))]) (st' := [eI (i + 1), eR 1, eR 64]) rfl (congrArg (fun q : Int => (some ([some (eR 1), some (eR 64), some (eR 98), some (eI (i))], eI q :: [eR 1, eR 64]) : Option (List (Option eV) × List eV))) w1) rfl ?_
  refine w_al (np := 1177) (v := ρ (i + 1).toNat) rfl rfl (lw_sc hL (by omega) (by omega)) ?_
  refine w_s (np := 1178) (lv' := [some (eR 1), some (eR 64), some (eR 98), some (eI (i))]) (st' := [eR 1, eI (ρ (i + 1).toNat), eR 64]) rfl rfl rfl ?_
  refine w_s (np := 1179) (lv' := [some (eR 1), some (eR 64), some (eR 98), some (eI (i))]) (st' := [eI (i), eR 1, eI (ρ (i + 1).toNat), eR 64]) rfl rfl rfl ?_
  refine w_s (np := 1180) (lv' := [some (eR 1), some (eR 64), some (eR 98), some (eI (i))]) (st' := [eI (2), eI (i), eR 1, eI (ρ (i + 1).toNat), eR 64]) rfl rfl rfl ?_
  have w2 : ev_w (i + 2) = (i + 2) := ev_w_in (by omega) (by omega)
  refine w_s (np := 1181) (lv' := [some (eR 1), some (eR 64), some (eR 98), some (eI (i))]) (st' := [eI (i + 2), eR 1, eI (ρ (i + 1).toNat), eR 64]) rfl (congrArg (fun q : Int => (some ([some (eR 1), some (eR 64), some (eR 98), some (eI (i))], eI q :: [eR 1, eI (ρ (i + 1).toNat), eR 64]) : Option (List (Option eV) × List eV))) w2) rfl ?_
  refine w_al (np := 1182) (v := ρ (i + 2).toNat) rfl rfl (lw_sc hL (by omega) (by omega)) ?_
  refine w_cw (np := 1185) (as := [eI (ρ (i + 1).toNat), eI (ρ (i + 2).toNat)]) (l2 := [some (eR 64), some (eI (ρ (i + 1).toNat)), some (eI (ρ (i + 2).toNat))]) (rest := []) rfl rfl rfl (Nat.ble_eq.mp rfl) rfl rfl rfl (hI.kd g64 (by decide) (n := 14) rfl) rfl ?_
  refine s_184 (a1 := ρ (i + 1).toNat) (a2 := ρ (i + 2).toNat) hI g64 (hρ _) (hρ _) hB ?_
  intro g3 m4 v5 c6 s7 P8 I9 F10 h11 h12 b13 b14
  have p15 := RP.fr hP F10 rfl
  have p16 := p15.go I9 P8
  have g18 := P8.k g64 (by decide) (by decide) (by decide)
  have g19 := P8.k g98 (by decide) (by decide) (by decide)
  show ex_q (dt_fg L ρ) rc (d + 14, (0, 1185, [some (eR 1), some (eR 64), some (eR 98), some (eI (i))], [eI v5]), F, m4)
  refine w_s (np := 1186) (lv' := [some (eR 1), some (eR 64), some (eR 98), some (eI (i))]) (st' := []) rfl rfl rfl ?_
  refine w_s (np := 1187) (lv' := [some (eR 1), some (eR 64), some (eR 98), some (eI (i))]) (st' := [eR 98]) rfl rfl rfl ?_
  refine w_s (np := 1188) (lv' := [some (eR 1), some (eR 64), some (eR 98), some (eI (i))]) (st' := [eR 1, eR 98]) rfl rfl rfl ?_
  refine w_s (np := 1189) (lv' := [some (eR 1), some (eR 64), some (eR 98), some (eI (i))]) (st' := [eI (i), eR 1, eR 98]) rfl rfl rfl ?_
  refine w_s (np := 1190) (lv' := [some (eR 1), some (eR 64), some (eR 98), some (eI (i))]) (st' := [eI (1), eI (i), eR 1, eR 98]) rfl rfl rfl ?_
  have w20 : ev_w (i + 1) = (i + 1) := ev_w_in (by omega) (by omega)
  refine w_s (np := 1191) (lv' := [some (eR 1), some (eR 64), some (eR 98), some (eI (i))]) (st' := [eI (i + 1), eR 1, eR 98]) rfl (congrArg (fun q : Int => (some ([some (eR 1), some (eR 64), some (eR 98), some (eI (i))], eI q :: [eR 1, eR 98]) : Option (List (Option eV) × List eV))) w20) rfl ?_
  refine w_al (np := 1192) (v := ρ (i + 1).toNat) rfl rfl (lw_sc hL (by omega) (by omega)) ?_
  refine w_s (np := 1193) (lv' := [some (eR 1), some (eR 64), some (eR 98), some (eI (i))]) (st' := [eR 1, eI (ρ (i + 1).toNat), eR 98]) rfl rfl rfl ?_
  refine w_s (np := 1194) (lv' := [some (eR 1), some (eR 64), some (eR 98), some (eI (i))]) (st' := [eI (i), eR 1, eI (ρ (i + 1).toNat), eR 98]) rfl rfl rfl ?_
  refine w_s (np := 1195) (lv' := [some (eR 1), some (eR 64), some (eR 98), some (eI (i))]) (st' := [eI (2), eI (i), eR 1, eI (ρ (i + 1).toNat), eR 98]) rfl rfl rfl ?_
  have w21 : ev_w (i + 2) = (i + 2) := ev_w_in (by omega) (by omega)
  refine w_s (np := 1196) (lv' := [some (eR 1), some (eR 64), some (eR 98), some (eI (i))]) (st' := [eI (i + 2), eR 1, eI (ρ (i + 1).toNat), eR 98]) rfl (congrArg (fun q : Int => (some ([some (eR 1), some (eR 64), some (eR 98), some (eI (i))], eI q :: [eR 1, eI (ρ (i + 1).toNat), eR 98]) : Option (List (Option eV) × List eV))) w21) rfl ?_
  refine w_al (np := 1197) (v := ρ (i + 2).toNat) rfl rfl (lw_sc hL (by omega) (by omega)) ?_
  refine w_cw (np := 1200) (as := [eI (ρ (i + 1).toNat), eI (ρ (i + 2).toNat)]) (l2 := [some (eR 98), some (eI (ρ (i + 1).toNat)), some (eI (ρ (i + 2).toNat)), none, none, none, none]) (rest := []) rfl rfl rfl (Nat.ble_eq.mp rfl) rfl rfl rfl (I9.kd g19 (by decide) (n := 69) rfl) rfl ?_
  refine s_300 (a1 := ρ (i + 1).toNat) (a2 := ρ (i + 2).toNat) I9 g19 (hρ _) (hρ _) p16.1 p16.2.1 p16.2.2.1 p16.2.2.2.1 p16.2.2.2.2.1 p16.2.2.2.2.2.1 p16.2.2.2.2.2.2.1 p16.2.2.2.2.2.2.2 ?_
  intro m32 v22 I33 F34 b23 p24 p25 p26 p27 p28 p29 p30 p31
  have p35 : RP g3 m32 := ⟨p24, p25, p26, p27, p28, p29, p30, p31⟩
  have b36 := HB.fr b14 g18 F34 rfl
  have e37 : m32.1 64 10 = m4.1 64 10 := F34.k rfl g18 (by decide) rfl
  show ex_q (dt_fg L ρ) rc (d + 14, (0, 1200, [some (eR 1), some (eR 64), some (eR 98), some (eI (i))], [eI v22]), F, m32)
  refine w_s (np := 1201) (lv' := [some (eR 1), some (eR 64), some (eR 98), some (eI (i))]) (st' := []) rfl rfl rfl ?_
  refine w_go (t1 := 1788) rfl rfl ?_
  rcases h12 with ⟨q1, q2⟩ | ⟨q1, q2, q3⟩
  · exact K g3 m32 P8 I33 p35 b36 (by have h0z := F10.1; have h1z := F34.1; omega) (Or.inl ⟨(by have h0z := F10.2.1; have h1z := F34.2.1; omega), fun q => (by rw [e37]; exact q2 q)⟩)
  · exact K g3 m32 P8 I33 p35 b36 (by have h0z := F10.1; have h1z := F34.1; omega) (Or.inr ⟨q1, (by rw [e37]; exact q2), (by have h0z := F10.2.1; have h1z := F34.2.1; omega)⟩)
theorem o_30 {L : Nat} {ρ : Nat → Int} {rc : eQ} {d : Nat} {F : List eFr} {μ : eM} {g : Nat → Nat} {i : Int} (hL : L ≤ 4096) (hρ : ∀ j, -2147483648 ≤ ρ j ∧ ρ j ≤ 2147483647) (hi : 0 ≤ i ∧ i + 8 ≤ (L : Int)) (hI : SI g μ) (g64 : g 64 = 1) (g98 : g 98 = 52) (hP : RP g μ) (hB : HB g μ 64) (K : ∀ (g2 : Nat → Nat) (m : eM), GP g g2 → SI g2 m → RP g2 m → HB g2 m 64 → m.2.1.length ≤ μ.2.1.length + 250 → (m.2.2 ≤ μ.2.2 + 10281 ∧ (μ.1 64 10 ≠ 0 → m.1 64 10 ≠ 0) ∨ μ.1 64 10 = 0 ∧ m.1 64 10 ≠ 0 ∧ m.2.2 ≤ μ.2.2 + 19700) → ex_q (dt_fg L ρ) rc (d + 14, (0, 1788, [some (eR 1), some (eR 64), some (eR 98), some (eI (i))], []), F, m)) : ex_q (dt_fg L ρ) rc (d + 14, (0, 1204, [some (eR 1), some (eR 64), some (eR 98), some (eI (i))], []), F, μ) := by
  refine w_s (np := 1205) (lv' := [some (eR 1), some (eR 64), some (eR 98), some (eI (i))]) (st' := [eR 64]) rfl rfl rfl ?_
  refine w_s (np := 1206) (lv' := [some (eR 1), some (eR 64), some (eR 98), some (eI (i))]) (st' := [eR 1, eR 64]) rfl rfl rfl ?_
  refine w_s (np := 1207) (lv' := [some (eR 1), some (eR 64), some (eR 98), some (eI (i))]) (st' := [eI (i), eR 1, eR 64]) rfl rfl rfl ?_
  refine w_s (np := 1208) (lv' := [some (eR 1), some (eR 64), some (eR 98), some (eI (i))]) (st' := [eI (1), eI (i), eR 1, eR 64]) rfl rfl rfl ?_
  have w1 : ev_w (i + 1) = (i + 1) := ev_w_in (by omega) (by omega)
  refine w_s (np := 1209) (lv' := [some (eR 1), some (eR 64), some (eR 98), some (eI (i))]) (st' := [eI (i + 1), eR 1, eR 64]) rfl (congrArg (fun q : Int => (some ([some (eR 1), some (eR 64), some (eR 98), some (eI (i))], eI q :: [eR 1, eR 64]) : Option (List (Option eV) × List eV))) w1) rfl ?_
  refine w_al (np := 1210) (v := ρ (i + 1).toNat) rfl rfl (lw_sc hL (by omega) (by omega)) ?_
  refine w_s (np := 1211) (lv' := [some (eR 1), some (eR 64), some (eR 98), some (eI (i))]) (st' := [eR 1, eI (ρ (i + 1).toNat), eR 64]) rfl rfl rfl ?_
  refine w_s (np := 1212) (lv' := [some (eR 1), some (eR 64), some (eR 98), some (eI (i))]) (st' := [eI (i), eR 1, eI (ρ (i + 1).toNat), eR 64]) rfl rfl rfl ?_
  refine w_s (np := 1213) (lv' := [some (eR 1), some (eR 64), some (eR 98), some (eI (i))]) (st' := [eI (2), eI (i), eR 1, eI (ρ (i + 1).toNat), eR 64]) rfl rfl rfl ?_
  have w2 : ev_w (i + 2) = (i + 2) := ev_w_in (by omega) (by omega)
  refine w_s (np := 1214) (lv' := [some (eR 1), some (eR 64), some (eR 98), some (eI (i))]) (st' := [eI (i + 2), eR 1, eI (ρ (i + 1).toNat), eR 64]) rfl (congrArg (fun q : Int => (some ([some (eR 1), some (eR 64), some (eR 98), some (eI (i))], eI q :: [eR 1, eI (ρ (i + 1).toNat), eR 64]) : Option (List (Option eV) × List eV))) w2) rfl ?_
  refine w_al (np := 1215) (v := ρ (i + 2).toNat) rfl rfl (lw_sc hL (by omega) (by omega)) ?_
  refine w_s (np := 1216) (lv' := [some (eR 1), some (eR 64), some (eR 98), some (eI (i))]) (st' := [eR 1, eI (ρ (i + 2).toNat), eI (ρ (i + 1).toNat), eR 64]) rfl rfl rfl ?_
  refine w_s (np := 1217) (lv' := [some (eR 1), some (eR 64), some (eR 98), some (eI (i))]) (st' := [eI (i), eR 1, eI (ρ (i + 2).toNat), eI (ρ (i + 1).toNat), eR 64]) rfl rfl rfl ?_
  refine w_s (np := 1218) (lv' := [some (eR 1), some (eR 64), some (eR 98), some (eI (i))]) (st' := [eI (3), eI (i), eR 1, eI (ρ (i + 2).toNat), eI (ρ (i + 1).toNat), eR 64]) rfl rfl rfl ?_
  have w3 : ev_w (i + 3) = (i + 3) := ev_w_in (by omega) (by omega)
  refine w_s (np := 1219) (lv' := [some (eR 1), some (eR 64), some (eR 98), some (eI (i))]) (st' := [eI (i + 3), eR 1, eI (ρ (i + 2).toNat), eI (ρ (i + 1).toNat), eR 64]) rfl (congrArg (fun q : Int => (some ([some (eR 1), some (eR 64), some (eR 98), some (eI (i))], eI q :: [eR 1, eI (ρ (i + 2).toNat), eI (ρ (i + 1).toNat), eR 64]) : Option (List (Option eV) × List eV))) w3) rfl ?_
  refine w_al (np := 1220) (v := ρ (i + 3).toNat) rfl rfl (lw_sc hL (by omega) (by omega)) ?_
  refine w_s (np := 1221) (lv' := [some (eR 1), some (eR 64), some (eR 98), some (eI (i))]) (st' := [eR 1, eI (ρ (i + 3).toNat), eI (ρ (i + 2).toNat), eI (ρ (i + 1).toNat), eR 64]) rfl rfl rfl ?_
  refine w_s (np := 1222) (lv' := [some (eR 1), some (eR 64), some (eR 98), some (eI (i))]) (st' := [eI (i), eR 1, eI (ρ (i + 3).toNat), eI (ρ (i + 2).toNat), eI (ρ (i + 1).toNat), eR 64]) rfl rfl rfl ?_
  refine w_s (np := 1223) (lv' := [some (eR 1), some (eR 64), some (eR 98), some (eI (i))]) (st' := [eI (4), eI (i), eR 1, eI (ρ (i + 3).toNat), eI (ρ (i + 2).toNat), eI (ρ (i + 1).toNat), eR 64]) rfl rfl rfl ?_
  have w4 : ev_w (i + 4) = (i + 4) := ev_w_in (by omega) (by omega)
  refine w_s (np := 1224) (lv' := [some (eR 1), some (eR 64), some (eR 98), some (eI (i))]) (st' := [eI (i + 4), eR 1, eI (ρ (i + 3).toNat), eI (ρ (i + 2).toNat), eI (ρ (i + 1).toNat), eR 64]) rfl (congrArg (fun q : Int => (some ([some (eR 1), some (eR 64), some (eR 98), some (eI (i))], eI q :: [eR 1, eI (ρ (i + 3).toNat), eI (ρ (i + 2).toNat), eI (ρ (i + 1).toNat), eR 64]) : Option (List (Option eV) × List eV))) w4) rfl ?_
  refine w_al (np := 1225) (v := ρ (i + 4).toNat) rfl rfl (lw_sc hL (by omega) (by omega)) ?_
  refine w_s (np := 1226) (lv' := [some (eR 1), some (eR 64), some (eR 98), some (eI (i))]) (st' := [eR 1, eI (ρ (i + 4).toNat), eI (ρ (i + 3).toNat), eI (ρ (i + 2).toNat), eI (ρ (i + 1).toNat), eR 64]) rfl rfl rfl ?_
  refine w_s (np := 1227) (lv' := [some (eR 1), some (eR 64), some (eR 98), some (eI (i))]) (st' := [eI (i), eR 1, eI (ρ (i + 4).toNat), eI (ρ (i + 3).toNat), eI (ρ (i + 2).toNat), eI (ρ (i + 1).toNat), eR 64]) rfl rfl rfl ?_
  refine w_s (np := 1228) (lv' := [some (eR 1), some (eR 64), some (eR 98), some (eI (i))]) (st' := [eI (5), eI (i), eR 1, eI (ρ (i + 4).toNat), eI (ρ (i + 3).toNat), eI (ρ (i + 2).toNat), eI (ρ (i + 1).toNat), eR 64]) rfl rfl rfl ?_
  have w5 : ev_w (i + 5) = (i + 5) := ev_w_in (by omega) (by omega)
  refine w_s (np := 1229) (lv' := [some (eR 1), some (eR 64), some (eR 98), some (eI (i))]) (st' := [eI (i + 5), eR 1, eI (ρ (i + 4).toNat), eI (ρ (i + 3).toNat), eI (ρ (i + 2).toNat), eI (ρ (i + 1).toNat), eR 64]) rfl (congrArg (fun q : Int => (some ([some (eR 1), some (eR 64), some (eR 98), some (eI (i))], eI q :: [eR 1, eI (ρ (i + 4).toNat), eI (ρ (i + 3).toNat), eI (ρ (i + 2).toNat), eI (ρ (i + 1).toNat), eR 64]) : Option (List (Option eV) × List eV))) w5) rfl ?_
  refine w_al (np := 1230) (v := ρ (i + 5).toNat) rfl rfl (lw_sc hL (by omega) (by omega)) ?_
  refine w_s (np := 1231) (lv' := [some (eR 1), some (eR 64), some (eR 98), some (eI (i))]) (st' := [eR 1, eI (ρ (i + 5).toNat), eI (ρ (i + 4).toNat), eI (ρ (i + 3).toNat), eI (ρ (i + 2).toNat), eI (ρ (i + 1).toNat), eR 64]) rfl rfl rfl ?_
  refine w_s (np := 1232) (lv' := [some (eR 1), some (eR 64), some (eR 98), some (eI (i))]) (st' := [eI (i), eR 1, eI (ρ (i + 5).toNat), eI (ρ (i + 4).toNat), eI (ρ (i + 3).toNat), eI (ρ (i + 2).toNat), eI (ρ (i + 1).toNat), eR 64]) rfl rfl rfl ?_
  refine w_s (np := 1234) (lv' := [some (eR 1), some (eR 64), some (eR 98), some (eI (i))]) (st' := [eI (6), eI (i), eR 1, eI (ρ (i + 5).toNat), eI (ρ (i + 4).toNat), eI (ρ (i + 3).toNat), eI (ρ (i + 2).toNat), eI (ρ (i + 1).toNat), eR 64]) rfl rfl rfl ?_
  have w6 : ev_w (i + 6) = (i + 6) := ev_w_in (by omega) (by omega)
  refine w_s (np := 1235) (lv' := [some (eR 1), some (eR 64), some (eR 98), some (eI (i))]) (st' := [eI (i + 6), eR 1, eI (ρ (i + 5).toNat), eI (ρ (i + 4).toNat), eI (ρ (i + 3).toNat), eI (ρ (i + 2).toNat), eI (ρ (i + 1).toNat), eR 64]) rfl (congrArg (fun q : Int => (some ([some (eR 1), some (eR 64), some (eR 98), some (eI (i))], eI q :: [eR 1, eI (ρ (i + 5).toNat), eI (ρ (i + 4).toNat), eI (ρ (i + 3).toNat), eI (ρ (i + 2).toNat), eI (ρ (i + 1).toNat), eR 64]) : Option (List (Option eV) × List eV))) w6) rfl ?_
  refine w_al (np := 1236) (v := ρ (i + 6).toNat) rfl rfl (lw_sc hL (by omega) (by omega)) ?_
  refine w_s (np := 1237) (lv' := [some (eR 1), some (eR 64), some (eR 98), some (eI (i))]) (st' := [eR 1, eI (ρ (i + 6).toNat), eI (ρ (i + 5).toNat), eI (ρ (i + 4).toNat), eI (ρ (i + 3).toNat), eI (ρ (i + 2).toNat), eI (ρ (i + 1).toNat), eR 64]) rfl rfl rfl ?_
  refine w_s (np := 1238) (lv' := [some (eR 1), some (eR 64), some (eR 98), some (eI (i))]) (st' := [eI (i), eR 1, eI (ρ (i + 6).toNat), eI (ρ (i + 5).toNat), eI (ρ (i + 4).toNat), eI (ρ (i + 3).toNat), eI (ρ (i + 2).toNat), eI (ρ (i + 1).toNat), eR 64]) rfl rfl rfl ?_
  refine w_s (np := 1240) (lv' := [some (eR 1), some (eR 64), some (eR 98), some (eI (i))]) (st' := [eI (7), eI (i), eR 1, eI (ρ (i + 6).toNat), eI (ρ (i + 5).toNat), eI (ρ (i + 4).toNat), eI (ρ (i + 3).toNat), eI (ρ (i + 2).toNat), eI (ρ (i + 1).toNat), eR 64]) rfl rfl rfl ?_
  have w7 : ev_w (i + 7) = (i + 7) := ev_w_in (by omega) (by omega)
  refine w_s (np := 1241) (lv' := [some (eR 1), some (eR 64), some (eR 98), some (eI (i))]) (st' := [eI (i + 7), eR 1, eI (ρ (i + 6).toNat), eI (ρ (i + 5).toNat), eI (ρ (i + 4).toNat), eI (ρ (i + 3).toNat), eI (ρ (i + 2).toNat), eI (ρ (i + 1).toNat), eR 64]) rfl (congrArg (fun q : Int => (some ([some (eR 1), some (eR 64), some (eR 98), some (eI (i))], eI q :: [eR 1, eI (ρ (i + 6).toNat), eI (ρ (i + 5).toNat), eI (ρ (i + 4).toNat), eI (ρ (i + 3).toNat), eI (ρ (i + 2).toNat), eI (ρ (i + 1).toNat), eR 64]) : Option (List (Option eV) × List eV))) w7) rfl ?_
  refine w_al (np := 1242) (v := ρ (i + 7).toNat) rfl rfl (lw_sc hL (by omega) (by omega)) ?_
  refine w_cw (np := 1245) (as := [eI (ρ (i + 1).toNat), eI (ρ (i + 2).toNat), eI (ρ (i + 3).toNat), eI (ρ (i + 4).toNat), eI (ρ (i + 5).toNat), eI (ρ (i + 6).toNat), eI (ρ (i + 7).toNat)]) (l2 := [some (eR 64), some (eI (ρ (i + 1).toNat)), some (eI (ρ (i + 2).toNat)), some (eI (ρ (i + 3).toNat)), some (eI (ρ (i + 4).toNat)), some (eI (ρ (i + 5).toNat)), some (eI (ρ (i + 6).toNat)), some (eI (ρ (i + 7).toNat))]) (rest := []) rfl rfl rfl (Nat.ble_eq.mp rfl) rfl rfl rfl (hI.kd g64 (by decide) (n := 14) rfl) rfl ?_
  refine s_185 (a1 := ρ (i + 1).toNat) (a2 := ρ (i + 2).toNat) (a3 := ρ (i + 3).toNat) (a4 := ρ (i + 4).toNat) (a5 := ρ (i + 5).toNat) (a6 := ρ (i + 6).toNat) (a7 := ρ (i + 7).toNat) hI g64 (hρ _) (hρ _) (hρ _) (hρ _) (hρ _) (hρ _) (hρ _)  ?_
  intro m10 v8 I11 F12 b9
  have p13 : RP g m10 := RP.fr hP F12 rfl
  have b14 := HB.fr hB g64 F12 rfl
  have e15 : m10.1 64 10 = μ.1 64 10 := F12.k rfl g64 (by decide) rfl
  show ex_q (dt_fg L ρ) rc (d + 14, (0, 1245, [some (eR 1), some (eR 64), some (eR 98), some (eI (i))], [eI v8]), F, m10)
  refine w_s (np := 1246) (lv' := [some (eR 1), some (eR 64), some (eR 98), some (eI (i))]) (st' := []) rfl rfl rfl ?_
  refine w_s (np := 1247) (lv' := [some (eR 1), some (eR 64), some (eR 98), some (eI (i))]) (st' := [eR 98]) rfl rfl rfl ?_
  refine w_s (np := 1248) (lv' := [some (eR 1), some (eR 64), some (eR 98), some (eI (i))]) (st' := [eR 1, eR 98]) rfl rfl rfl ?_
  refine w_s (np := 1249) (lv' := [some (eR 1), some (eR 64), some (eR 98), some (eI (i))]) (st' := [eI (i), eR 1, eR 98]) rfl rfl rfl ?_
  refine w_s (np := 1250) (lv' := [some (eR 1), some (eR 64), some (eR 98), some (eI (i))]) (st' := [eI (1), eI (i), eR 1, eR 98]) rfl rfl rfl ?_
  have w16 : ev_w (i + 1) = (i + 1) := ev_w_in (by omega) (by omega)
  refine w_s (np := 1251) (lv' := [some (eR 1), some (eR 64), some (eR 98), some (eI (i))]) (st' := [eI (i + 1), eR 1, eR 98]) rfl (congrArg (fun q : Int => (some ([some (eR 1), some (eR 64), some (eR 98), some (eI (i))], eI q :: [eR 1, eR 98]) : Option (List (Option eV) × List eV))) w16) rfl ?_
  refine w_al (np := 1252) (v := ρ (i + 1).toNat) rfl rfl (lw_sc hL (by omega) (by omega)) ?_
  refine w_s (np := 1253) (lv' := [some (eR 1), some (eR 64), some (eR 98), some (eI (i))]) (st' := [eR 1, eI (ρ (i + 1).toNat), eR 98]) rfl rfl rfl ?_
  refine w_s (np := 1254) (lv' := [some (eR 1), some (eR 64), some (eR 98), some (eI (i))]) (st' := [eI (i), eR 1, eI (ρ (i + 1).toNat), eR 98]) rfl rfl rfl ?_
  refine w_s (np := 1255) (lv' := [some (eR 1), some (eR 64), some (eR 98), some (eI (i))]) (st' := [eI (2), eI (i), eR 1, eI (ρ (i + 1).toNat), eR 98]) rfl rfl rfl ?_
  have w17 : ev_w (i + 2) = (i + 2) := ev_w_in (by omega) (by omega)
  refine w_s (np := 1256) (lv' := [some (eR 1), some (eR 64), some (eR 98), some (eI (i))]) (st' := [eI (i + 2), eR 1, eI (ρ (i + 1).toNat), eR 98]) rfl (congrArg (fun q : Int => (some ([some (eR 1), some (eR 64), some (eR 98), some (eI (i))], eI q :: [eR 1, eI (ρ (i + 1).toNat), eR 98]) : Option (List (Option eV) × List eV))) w17) rfl ?_
  refine w_al (np := 1257) (v := ρ (i + 2).toNat) rfl rfl (lw_sc hL (by omega) (by omega)) ?_
  refine w_s (np := 1258) (lv' := [some (eR 1), some (eR 64), some (eR 98), some (eI (i))]) (st' := [eR 1, eI (ρ (i + 2).toNat), eI (ρ (i + 1).toNat), eR 98]) rfl rfl rfl ?_
  refine w_s (np := 1259) (lv' := [some (eR 1), some (eR 64), some (eR 98), some (eI (i))]) (st' := [eI (i), eR 1, eI (ρ (i + 2).toNat), eI (ρ (i + 1).toNat), eR 98]) rfl rfl rfl ?_
  refine w_s (np := 1260) (lv' := [some (eR 1), some (eR 64), some (eR 98), some (eI (i))]) (st' := [eI (3), eI (i), eR 1, eI (ρ (i + 2).toNat), eI (ρ (i + 1).toNat), eR 98]) rfl rfl rfl ?_
  have w18 : ev_w (i + 3) = (i + 3) := ev_w_in (by omega) (by omega)
  refine w_s (np := 1261) (lv' := [some (eR 1), some (eR 64), some (eR 98), some (eI (i))]) (st' := [eI (i + 3), eR 1, eI (ρ (i + 2).toNat), eI (ρ (i + 1).toNat), eR 98]) rfl (congrArg (fun q : Int => (some ([some (eR 1), some (eR 64), some (eR 98), some (eI (i))], eI q :: [eR 1, eI (ρ (i + 2).toNat), eI (ρ (i + 1).toNat), eR 98]) : Option (List (Option eV) × List eV))) w18) rfl ?_
  refine w_al (np := 1262) (v := ρ (i + 3).toNat) rfl rfl (lw_sc hL (by omega) (by omega)) ?_
  refine w_s (np := 1263) (lv' := [some (eR 1), some (eR 64), some (eR 98), some (eI (i))]) (st' := [eR 1, eI (ρ (i + 3).toNat), eI (ρ (i + 2).toNat), eI (ρ (i + 1).toNat), eR 98]) rfl rfl rfl ?_
  refine w_s (np := 1264) (lv' := [some (eR 1), some (eR 64), some (eR 98), some (eI (i))]) (st' := [eI (i), eR 1, eI (ρ (i + 3).toNat), eI (ρ (i + 2).toNat), eI (ρ (i + 1).toNat), eR 98]) rfl rfl rfl ?_
  refine w_s (np := 1265) (lv' := [some (eR 1), some (eR 64), some (eR 98), some (eI (i))]) (st' := [eI (4), eI (i), eR 1, eI (ρ (i + 3).toNat), eI (ρ (i + 2).toNat), eI (ρ (i + 1).toNat), eR 98]) rfl rfl rfl ?_
  have w19 : ev_w (i + 4) = (i + 4) := ev_w_in (by omega) (by omega)
  refine w_s (np := 1266) (lv' := [some (eR 1), some (eR 64), some (eR 98), some (eI (i))]) (st' := [eI (i + 4), eR 1, eI (ρ (i + 3).toNat), eI (ρ (i + 2).toNat), eI (ρ (i + 1).toNat), eR 98]) rfl (congrArg (fun q : Int => (some ([some (eR 1), some (eR 64), some (eR 98), some (eI (i))], eI q :: [eR 1, eI (ρ (i + 3).toNat), eI (ρ (i + 2).toNat), eI (ρ (i + 1).toNat), eR 98]) : Option (List (Option eV) × List eV))) w19) rfl ?_
  refine w_al (np := 1267) (v := ρ (i + 4).toNat) rfl rfl (lw_sc hL (by omega) (by omega)) ?_
  refine w_s (np := 1268) (lv' := [some (eR 1), some (eR 64), some (eR 98), some (eI (i))]) (st' := [eR 1, eI (ρ (i + 4).toNat), eI (ρ (i + 3).toNat), eI (ρ (i + 2).toNat), eI (ρ (i + 1).toNat), eR 98]) rfl rfl rfl ?_
  refine w_s (np := 1269) (lv' := [some (eR 1), some (eR 64), some (eR 98), some (eI (i))]) (st' := [eI (i), eR 1, eI (ρ (i + 4).toNat), eI (ρ (i + 3).toNat), eI (ρ (i + 2).toNat), eI (ρ (i + 1).toNat), eR 98]) rfl rfl rfl ?_
  refine w_s (np := 1270) (lv' := [some (eR 1), some (eR 64), some (eR 98), some (eI (i))]) (st' := [eI (5), eI (i), eR 1, eI (ρ (i + 4).toNat), eI (ρ (i + 3).toNat), eI (ρ (i + 2).toNat), eI (ρ (i + 1).toNat), eR 98]) rfl rfl rfl ?_
  have w20 : ev_w (i + 5) = (i + 5) := ev_w_in (by omega) (by omega)
  refine w_s (np := 1271) (lv' := [some (eR 1), some (eR 64), some (eR 98), some (eI (i))]) (st' := [eI (i + 5), eR 1, eI (ρ (i + 4).toNat), eI (ρ (i + 3).toNat), eI (ρ (i + 2).toNat), eI (ρ (i + 1).toNat), eR 98]) rfl (congrArg (fun q : Int => (some ([some (eR 1), some (eR 64), some (eR 98), some (eI (i))], eI q :: [eR 1, eI (ρ (i + 4).toNat), eI (ρ (i + 3).toNat), eI (ρ (i + 2).toNat), eI (ρ (i + 1).toNat), eR 98]) : Option (List (Option eV) × List eV))) w20) rfl ?_
  refine w_al (np := 1272) (v := ρ (i + 5).toNat) rfl rfl (lw_sc hL (by omega) (by omega)) ?_
  refine w_s (np := 1273) (lv' := [some (eR 1), some (eR 64), some (eR 98), some (eI (i))]) (st' := [eR 1, eI (ρ (i + 5).toNat), eI (ρ (i + 4).toNat), eI (ρ (i + 3).toNat), eI (ρ (i + 2).toNat), eI (ρ (i + 1).toNat), eR 98]) rfl rfl rfl ?_
  refine w_s (np := 1274) (lv' := [some (eR 1), some (eR 64), some (eR 98), some (eI (i))]) (st' := [eI (i), eR 1, eI (ρ (i + 5).toNat), eI (ρ (i + 4).toNat), eI (ρ (i + 3).toNat), eI (ρ (i + 2).toNat), eI (ρ (i + 1).toNat), eR 98]) rfl rfl rfl ?_
  refine w_s (np := 1276) (lv' := [some (eR 1), some (eR 64), some (eR 98), some (eI (i))]) (st' := [eI (6), eI (i), eR 1, eI (ρ (i + 5).toNat), eI (ρ (i + 4).toNat), eI (ρ (i + 3).toNat), eI (ρ (i + 2).toNat), eI (ρ (i + 1).toNat), eR 98]) rfl rfl rfl ?_
  have w21 : ev_w (i + 6) = (i + 6) := ev_w_in (by omega) (by omega)
  refine w_s (np := 1277) (lv' := [some (eR 1), some (eR 64), some (eR 98), some (eI (i))]) (st' := [eI (i + 6), eR 1, eI (ρ (i + 5).toNat), eI (ρ (i + 4).toNat), eI (ρ (i + 3).toNat), eI (ρ (i + 2).toNat), eI (ρ (i + 1).toNat), eR 98]) rfl (congrArg (fun q : Int => (some ([some (eR 1), some (eR 64), some (eR 98), some (eI (i))], eI q :: [eR 1, eI (ρ (i + 5).toNat), eI (ρ (i + 4).toNat), eI (ρ (i + 3).toNat), eI (ρ (i + 2).toNat), eI (ρ (i + 1).toNat), eR 98]) : Option (List (Option eV) × List eV))) w21) rfl ?_
  refine w_al (np := 1278) (v := ρ (i + 6).toNat) rfl rfl (lw_sc hL (by omega) (by omega)) ?_
  refine w_s (np := 1279) (lv' := [some (eR 1), some (eR 64), some (eR 98), some (eI (i))]) (st' := [eR 1, eI (ρ (i + 6).toNat), eI (ρ (i + 5).toNat), eI (ρ (i + 4).toNat), eI (ρ (i + 3).toNat), eI (ρ (i + 2).toNat), eI (ρ (i + 1).toNat), eR 98]) rfl rfl rfl ?_
  refine w_s (np := 1280) (lv' := [some (eR 1), some (eR 64), some (eR 98), some (eI (i))]) (st' := [eI (i), eR 1, eI (ρ (i + 6).toNat), eI (ρ (i + 5).toNat), eI (ρ (i + 4).toNat), eI (ρ (i + 3).toNat), eI (ρ (i + 2).toNat), eI (ρ (i + 1).toNat), eR 98]) rfl rfl rfl ?_
  refine w_s (np := 1282) (lv' := [some (eR 1), some (eR 64), some (eR 98), some (eI (i))]) (st' := [eI (7), eI (i), eR 1, eI (ρ (i + 6).toNat), eI (ρ (i + 5).toNat), eI (ρ (i + 4).toNat), eI (ρ (i + 3).toNat), eI (ρ (i + 2).toNat), eI (ρ (i + 1).toNat), eR 98]) rfl rfl rfl ?_
  have w22 : ev_w (i + 7) = (i + 7) := ev_w_in (by omega) (by omega)
  refine w_s (np := 1283) (lv' := [some (eR 1), some (eR 64), some (eR 98), some (eI (i))]) (st' := [eI (i + 7), eR 1, eI (ρ (i + 6).toNat), eI (ρ (i + 5).toNat), eI (ρ (i + 4).toNat), eI (ρ (i + 3).toNat), eI (ρ (i + 2).toNat), eI (ρ (i + 1).toNat), eR 98]) rfl (congrArg (fun q : Int => (some ([some (eR 1), some (eR 64), some (eR 98), some (eI (i))], eI q :: [eR 1, eI (ρ (i + 6).toNat), eI (ρ (i + 5).toNat), eI (ρ (i + 4).toNat), eI (ρ (i + 3).toNat), eI (ρ (i + 2).toNat), eI (ρ (i + 1).toNat), eR 98]) : Option (List (Option eV) × List eV))) w22) rfl ?_
  refine w_al (np := 1284) (v := ρ (i + 7).toNat) rfl rfl (lw_sc hL (by omega) (by omega)) ?_
  refine w_cw (np := 1287) (as := [eI (ρ (i + 1).toNat), eI (ρ (i + 2).toNat), eI (ρ (i + 3).toNat), eI (ρ (i + 4).toNat), eI (ρ (i + 5).toNat), eI (ρ (i + 6).toNat), eI (ρ (i + 7).toNat)]) (l2 := [some (eR 98), some (eI (ρ (i + 1).toNat)), some (eI (ρ (i + 2).toNat)), some (eI (ρ (i + 3).toNat)), some (eI (ρ (i + 4).toNat)), some (eI (ρ (i + 5).toNat)), some (eI (ρ (i + 6).toNat)), some (eI (ρ (i + 7).toNat))]) (rest := []) rfl rfl rfl (Nat.ble_eq.mp rfl) rfl rfl rfl (I11.kd g98 (by decide) (n := 69) rfl) rfl ?_
  refine s_314 (a1 := ρ (i + 1).toNat) (a2 := ρ (i + 2).toNat) (a3 := ρ (i + 3).toNat) (a4 := ρ (i + 4).toNat) (a5 := ρ (i + 5).toNat) (a6 := ρ (i + 6).toNat) (a7 := ρ (i + 7).toNat) I11 g98 (hρ _) (hρ _) (hρ _) (hρ _) (hρ _) (hρ _) (hρ _)  ?_
  intro m25 v23 I26 F27 b24
  have p28 : RP g m25 := RP.fr p13 F27 rfl
  have b29 := HB.fr b14 g64 F27 rfl
  have e30 : m25.1 64 10 = m10.1 64 10 := F27.k rfl g64 (by decide) rfl
  show ex_q (dt_fg L ρ) rc (d + 14, (0, 1287, [some (eR 1), some (eR 64), some (eR 98), some (eI (i))], [eI v23]), F, m25)
  refine w_s (np := 1288) (lv' := [some (eR 1), some (eR 64), some (eR 98), some (eI (i))]) (st' := []) rfl rfl rfl ?_
  refine w_go (t1 := 1788) rfl rfl ?_
  exact K g m25 (GP.r hI.1) I26 p28 b29 (by have h0z := F12.1; have h1z := F27.1; omega) (Or.inl ⟨(by have h0z := F12.2.1; have h1z := F27.2.1; omega), fun q => (by rw [e30, e15]; exact q)⟩)
theorem o_31 {L : Nat} {ρ : Nat → Int} {rc : eQ} {d : Nat} {F : List eFr} {μ : eM} {g : Nat → Nat} {i : Int} (hL : L ≤ 4096) (hρ : ∀ j, -2147483648 ≤ ρ j ∧ ρ j ≤ 2147483647) (hi : 0 ≤ i ∧ i + 8 ≤ (L : Int)) (hI : SI g μ) (g64 : g 64 = 1) (g98 : g 98 = 52) (hP : RP g μ) (hB : HB g μ 64) (K : ∀ (g2 : Nat → Nat) (m : eM), GP g g2 → SI g2 m → RP g2 m → HB g2 m 64 → m.2.1.length ≤ μ.2.1.length + 250 → (m.2.2 ≤ μ.2.2 + 10281 ∧ (μ.1 64 10 ≠ 0 → m.1 64 10 ≠ 0) ∨ μ.1 64 10 = 0 ∧ m.1 64 10 ≠ 0 ∧ m.2.2 ≤ μ.2.2 + 19700) → ex_q (dt_fg L ρ) rc (d + 14, (0, 1788, [some (eR 1), some (eR 64), some (eR 98), some (eI (i))], []), F, m)) : ex_q (dt_fg L ρ) rc (d + 14, (0, 1291, [some (eR 1), some (eR 64), some (eR 98), some (eI (i))], []), F, μ) := by
  refine w_s (np := 1292) (lv' := [some (eR 1), some (eR 64), some (eR 98), some (eI (i))]) (st' := [eR 64]) rfl rfl rfl ?_
  refine w_s (np := 1293) (lv' := [some (eR 1), some (eR 64), some (eR 98), some (eI (i))]) (st' := [eR 1, eR 64]) rfl rfl rfl ?_
  refine w_s (np := 1294) (lv' := [some (eR 1), some (eR 64), some (eR 98), some (eI (i))]) (st' := [eI (i), eR 1, eR 64]) rfl rfl rfl ?_
  refine w_s (np := 1295) (lv' := [some (eR 1), some (eR 64), some (eR 98), some (eI (i))]) (st' := [eI (1), eI (i), eR 1, eR 64]) rfl rfl rfl ?_
  have w1 : ev_w (i + 1) = (i + 1) := ev_w_in (by omega) (by omega)
  refine w_s (np := 1296) (lv' := [some (eR 1), some (eR 64), some (eR 98), some (eI (i))]) (st' := [eI (i + 1), eR 1, eR 64]) rfl (congrArg (fun q : Int => (some ([some (eR 1), some (eR 64), some (eR 98), some (eI (i))], eI q :: [eR 1, eR 64]) : Option (List (Option eV) × List eV))) w1) rfl ?_
  refine w_al (np := 1297) (v := ρ (i + 1).toNat) rfl rfl (lw_sc hL (by omega) (by omega)) ?_
  refine w_cw (np := 1300) (as := [eI (ρ (i + 1).toNat)]) (l2 := [some (eR 64), some (eI (ρ (i + 1).toNat)), none, none, none]) (rest := []) rfl rfl rfl (Nat.ble_eq.mp rfl) rfl rfl rfl (hI.kd g64 (by decide) (n := 14) rfl) rfl ?_
  refine s_186 (a1 := ρ (i + 1).toNat) hI g64 (hρ _)  ?_
  intro g4 m5 v2 E6 I7 F8 b3
  have p9 := RP.fr hP F8 rfl
  have b10 := HB.fr hB g64 F8 rfl
  have G15 := E6.p
  have p13 := p9.go I7 G15
  have b14 := b10.go G15
  have g11 : g4 64 = 1 := E6.g g64 (by decide)
  have g12 : g4 98 = 52 := E6.g g98 (by decide)
  have e16 : m5.1 64 10 = μ.1 64 10 := F8.k rfl g64 (by decide) rfl
  show ex_q (dt_fg L ρ) rc (d + 14, (0, 1300, [some (eR 1), some (eR 64), some (eR 98), some (eI (i))], [eI v2]), F, m5)
  refine w_s (np := 1301) (lv' := [some (eR 1), some (eR 64), some (eR 98), some (eI (i))]) (st' := []) rfl rfl rfl ?_
  refine w_s (np := 1302) (lv' := [some (eR 1), some (eR 64), some (eR 98), some (eI (i))]) (st' := [eR 98]) rfl rfl rfl ?_
  refine w_s (np := 1303) (lv' := [some (eR 1), some (eR 64), some (eR 98), some (eI (i))]) (st' := [eR 1, eR 98]) rfl rfl rfl ?_
  refine w_s (np := 1304) (lv' := [some (eR 1), some (eR 64), some (eR 98), some (eI (i))]) (st' := [eI (i), eR 1, eR 98]) rfl rfl rfl ?_
  refine w_s (np := 1305) (lv' := [some (eR 1), some (eR 64), some (eR 98), some (eI (i))]) (st' := [eI (1), eI (i), eR 1, eR 98]) rfl rfl rfl ?_
  have w17 : ev_w (i + 1) = (i + 1) := ev_w_in (by omega) (by omega)
  refine w_s (np := 1306) (lv' := [some (eR 1), some (eR 64), some (eR 98), some (eI (i))]) (st' := [eI (i + 1), eR 1, eR 98]) rfl (congrArg (fun q : Int => (some ([some (eR 1), some (eR 64), some (eR 98), some (eI (i))], eI q :: [eR 1, eR 98]) : Option (List (Option eV) × List eV))) w17) rfl ?_
  refine w_al (np := 1307) (v := ρ (i + 1).toNat) rfl rfl (lw_sc hL (by omega) (by omega)) ?_
  refine w_cw (np := 1310) (as := [eI (ρ (i + 1).toNat)]) (l2 := [some (eR 98), some (eI (ρ (i + 1).toNat)), none, none, none, none]) (rest := []) rfl rfl rfl (Nat.ble_eq.mp rfl) rfl rfl rfl (I7.kd g12 (by decide) (n := 69) rfl) rfl ?_
  refine s_315 (a1 := ρ (i + 1).toNat) I7 g12 (hρ _) p13.2.2.1 ?_
  intro m20 v18 I21 F22 b19
  have p23 : RP g4 m20 := RP.fr p13 F22 rfl
  have b24 := HB.fr b14 g11 F22 rfl
  have e25 : m20.1 64 10 = m5.1 64 10 := F22.k rfl g11 (by decide) rfl
  show ex_q (dt_fg L ρ) rc (d + 14, (0, 1310, [some (eR 1), some (eR 64), some (eR 98), some (eI (i))], [eI v18]), F, m20)
  refine w_s (np := 1311) (lv' := [some (eR 1), some (eR 64), some (eR 98), some (eI (i))]) (st' := []) rfl rfl rfl ?_
  refine w_go (t1 := 1788) rfl rfl ?_
  exact K g4 m20 G15 I21 p23 b24 (by have h0z := F8.1; have h1z := F22.1; omega) (Or.inl ⟨(by have h0z := F8.2.1; have h1z := F22.2.1; omega), fun q => (by rw [e25, e16]; exact q)⟩)
theorem o_32 {L : Nat} {ρ : Nat → Int} {rc : eQ} {d : Nat} {F : List eFr} {μ : eM} {g : Nat → Nat} {i : Int} (hL : L ≤ 4096) (hρ : ∀ j, -2147483648 ≤ ρ j ∧ ρ j ≤ 2147483647) (hi : 0 ≤ i ∧ i + 8 ≤ (L : Int)) (hI : SI g μ) (g64 : g 64 = 1) (g98 : g 98 = 52) (hP : RP g μ) (hB : HB g μ 64) (K : ∀ (g2 : Nat → Nat) (m : eM), GP g g2 → SI g2 m → RP g2 m → HB g2 m 64 → m.2.1.length ≤ μ.2.1.length + 250 → (m.2.2 ≤ μ.2.2 + 10281 ∧ (μ.1 64 10 ≠ 0 → m.1 64 10 ≠ 0) ∨ μ.1 64 10 = 0 ∧ m.1 64 10 ≠ 0 ∧ m.2.2 ≤ μ.2.2 + 19700) → ex_q (dt_fg L ρ) rc (d + 14, (0, 1788, [some (eR 1), some (eR 64), some (eR 98), some (eI (i))], []), F, m)) : ex_q (dt_fg L ρ) rc (d + 14, (0, 1314, [some (eR 1), some (eR 64), some (eR 98), some (eI (i))], []), F, μ) := by
  refine w_s (np := 1315) (lv' := [some (eR 1), some (eR 64), some (eR 98), some (eI (i))]) (st' := [eR 64]) rfl rfl rfl ?_
  refine w_s (np := 1316) (lv' := [some (eR 1), some (eR 64), some (eR 98), some (eI (i))]) (st' := [eR 1, eR 64]) rfl rfl rfl ?_
  refine w_s (np := 1317) (lv' := [some (eR 1), some (eR 64), some (eR 98), some (eI (i))]) (st' := [eI (i), eR 1, eR 64]) rfl rfl rfl ?_
  refine w_s (np := 1318) (lv' := [some (eR 1), some (eR 64), some (eR 98), some (eI (i))]) (st' := [eI (1), eI (i), eR 1, eR 64]) rfl rfl rfl ?_
  have w1 : ev_w (i + 1) = (i + 1) := ev_w_in (by omega) (by omega)
  refine w_s (np := 1319) (lv' := [some (eR 1), some (eR 64), some (eR 98), some (eI (i))]) (st' := [eI (i + 1), eR 1, eR 64]) rfl (congrArg (fun q : Int => (some ([some (eR 1), some (eR 64), some (eR 98), some (eI (i))], eI q :: [eR 1, eR 64]) : Option (List (Option eV) × List eV))) w1) rfl ?_
  refine w_al (np := 1320) (v := ρ (i + 1).toNat) rfl rfl (lw_sc hL (by omega) (by omega)) ?_
  refine w_cw (np := 1323) (as := [eI (ρ (i + 1).toNat)]) (l2 := [some (eR 64), some (eI (ρ (i + 1).toNat))]) (rest := []) rfl rfl rfl (Nat.ble_eq.mp rfl) rfl rfl rfl (hI.kd g64 (by decide) (n := 14) rfl) rfl ?_
  refine s_187 (a1 := ρ (i + 1).toNat) hI g64 (hρ _)  ?_
  intro m4 v2 I5 F6 b3
  have p7 : RP g m4 := RP.fr hP F6 rfl
  have b8 := HB.fr hB g64 F6 rfl
  have e9 : m4.1 64 10 = μ.1 64 10 := F6.k rfl g64 (by decide) rfl
  show ex_q (dt_fg L ρ) rc (d + 14, (0, 1323, [some (eR 1), some (eR 64), some (eR 98), some (eI (i))], [eI v2]), F, m4)
  refine w_s (np := 1324) (lv' := [some (eR 1), some (eR 64), some (eR 98), some (eI (i))]) (st' := []) rfl rfl rfl ?_
  refine w_s (np := 1325) (lv' := [some (eR 1), some (eR 64), some (eR 98), some (eI (i))]) (st' := [eR 98]) rfl rfl rfl ?_
  refine w_s (np := 1326) (lv' := [some (eR 1), some (eR 64), some (eR 98), some (eI (i))]) (st' := [eR 1, eR 98]) rfl rfl rfl ?_
  refine w_s (np := 1327) (lv' := [some (eR 1), some (eR 64), some (eR 98), some (eI (i))]) (st' := [eI (i), eR 1, eR 98]) rfl rfl rfl ?_
  refine w_s (np := 1328) (lv' := [some (eR 1), some (eR 64), some (eR 98), some (eI (i))]) (st' := [eI (1), eI (i), eR 1, eR 98]) rfl rfl rfl ?_
  have w10 : ev_w (i + 1) = (i + 1) := ev_w_in (by omega) (by omega)
  refine w_s (np := 1329) (lv' := [some (eR 1), some (eR 64), some (eR 98), some (eI (i))]) (st' := [eI (i + 1), eR 1, eR 98]) rfl (congrArg (fun q : Int => (some ([some (eR 1), some (eR 64), some (eR 98), some (eI (i))], eI q :: [eR 1, eR 98]) : Option (List (Option eV) × List eV))) w10) rfl ?_
  refine w_al (np := 1330) (v := ρ (i + 1).toNat) rfl rfl (lw_sc hL (by omega) (by omega)) ?_
  refine w_cw (np := 1333) (as := [eI (ρ (i + 1).toNat)]) (l2 := [some (eR 98), some (eI (ρ (i + 1).toNat)), none]) (rest := []) rfl rfl rfl (Nat.ble_eq.mp rfl) rfl rfl rfl (I5.kd g98 (by decide) (n := 69) rfl) rfl ?_
  refine s_317 (a1 := ρ (i + 1).toNat) I5 g98 (hρ _)  ?_
  intro m13 v11 I14 F15 b12
  have p16 : RP g m13 := RP.fr p7 F15 rfl
  have b17 := HB.fr b8 g64 F15 rfl
  have e18 : m13.1 64 10 = m4.1 64 10 := F15.k rfl g64 (by decide) rfl
  show ex_q (dt_fg L ρ) rc (d + 14, (0, 1333, [some (eR 1), some (eR 64), some (eR 98), some (eI (i))], [eI v11]), F, m13)
  refine w_s (np := 1334) (lv' := [some (eR 1), some (eR 64), some (eR 98), some (eI (i))]) (st' := []) rfl rfl rfl ?_
  refine w_go (t1 := 1788) rfl rfl ?_
  exact K g m13 (GP.r hI.1) I14 p16 b17 (by have h0z := F6.1; have h1z := F15.1; omega) (Or.inl ⟨(by have h0z := F6.2.1; have h1z := F15.2.1; omega), fun q => (by rw [e18, e9]; exact q)⟩)
