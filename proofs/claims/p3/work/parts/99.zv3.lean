/-! THE LAWS TURNS -/
theorem o_33 {L : Nat} {ρ : Nat → Int} {rc : eQ} {d : Nat} {F : List eFr} {μ : eM} {g : Nat → Nat} {i : Int} (hL : L ≤ 4096) (hρ : ∀ j, -2147483648 ≤ ρ j ∧ ρ j ≤ 2147483647) (hi : 0 ≤ i ∧ i + 8 ≤ (L : Int)) (hI : SI g μ) (g64 : g 64 = 1) (g98 : g 98 = 52) (hP : RP g μ) (hB : HB g μ 64) (K : ∀ (g2 : Nat → Nat) (m : eM), GP g g2 → SI g2 m → RP g2 m → HB g2 m 64 → m.2.1.length ≤ μ.2.1.length + 250 → (m.2.2 ≤ μ.2.2 + 10281 ∧ (μ.1 64 10 ≠ 0 → m.1 64 10 ≠ 0) ∨ μ.1 64 10 = 0 ∧ m.1 64 10 ≠ 0 ∧ m.2.2 ≤ μ.2.2 + 19700) → ex_q (dt_fg L ρ) rc (d + 14, (0, 1788, [some (eR 1), some (eR 64), some (eR 98), some (eI (i))], []), F, m)) : ex_q (dt_fg L ρ) rc (d + 14, (0, 1337, [some (eR 1), some (eR 64), some (eR 98), some (eI (i))], []), F, μ) := by
  refine w_s (np := 1338) (lv' := [some (eR 1), some (eR 64), some (eR 98), some (eI (i))]) (st' := [eR 64]) rfl rfl rfl ?_
  refine w_cw (np := 1341) (as := []) (l2 := [some (eR 64), none]) (rest := []) rfl rfl rfl (Nat.ble_eq.mp rfl) rfl rfl rfl (hI.kd g64 (by decide) (n := 14) rfl) rfl ?_
  refine s_188 hI g64   ?_
  intro m3 v1 I4 F5 b2
  have p6 : RP g m3 := RP.fr hP F5 rfl
  have b7 := HB.fr hB g64 F5 rfl
  have e8 : m3.1 64 10 = μ.1 64 10 := F5.k rfl g64 (by decide) rfl
  show ex_q (dt_fg L ρ) rc (d + 14, (0, 1341, [some (eR 1), some (eR 64), some (eR 98), some (eI (i))], [eI v1]), F, m3)
  refine w_s (np := 1342) (lv' := [some (eR 1), some (eR 64), some (eR 98), some (eI (i))]) (st' := []) rfl rfl rfl ?_
  refine w_s (np := 1343) (lv' := [some (eR 1), some (eR 64), some (eR 98), some (eI (i))]) (st' := [eR 98]) rfl rfl rfl ?_
  refine w_cw (np := 1346) (as := []) (l2 := [some (eR 98), none]) (rest := []) rfl rfl rfl (Nat.ble_eq.mp rfl) rfl rfl rfl (I4.kd g98 (by decide) (n := 69) rfl) rfl ?_
  refine s_318 I4 g98   ?_
  intro m11 v9 I12 F13 b10
  have p14 : RP g m11 := RP.fr p6 F13 rfl
  have b15 := HB.fr b7 g64 F13 rfl
  have e16 : m11.1 64 10 = m3.1 64 10 := F13.k rfl g64 (by decide) rfl
  show ex_q (dt_fg L ρ) rc (d + 14, (0, 1346, [some (eR 1), some (eR 64), some (eR 98), some (eI (i))], [eI v9]), F, m11)
  refine w_s (np := 1347) (lv' := [some (eR 1), some (eR 64), some (eR 98), some (eI (i))]) (st' := []) rfl rfl rfl ?_
  refine w_go (t1 := 1788) rfl rfl ?_
  exact K g m11 (GP.r hI.1) I12 p14 b15 (by have h0z := F5.1; have h1z := F13.1; omega) (Or.inl ⟨(by have h0z := F5.2.1; have h1z := F13.2.1; omega), fun q => (by rw [e16, e8]; exact q)⟩)
theorem o_34 {L : Nat} {ρ : Nat → Int} {rc : eQ} {d : Nat} {F : List eFr} {μ : eM} {g : Nat → Nat} {i : Int} (hL : L ≤ 4096) (hρ : ∀ j, -2147483648 ≤ ρ j ∧ ρ j ≤ 2147483647) (hi : 0 ≤ i ∧ i + 8 ≤ (L : Int)) (hI : SI g μ) (g64 : g 64 = 1) (g98 : g 98 = 52) (hP : RP g μ) (hB : HB g μ 64) (K : ∀ (g2 : Nat → Nat) (m : eM), GP g g2 → SI g2 m → RP g2 m → HB g2 m 64 → m.2.1.length ≤ μ.2.1.length + 250 → (m.2.2 ≤ μ.2.2 + 10281 ∧ (μ.1 64 10 ≠ 0 → m.1 64 10 ≠ 0) ∨ μ.1 64 10 = 0 ∧ m.1 64 10 ≠ 0 ∧ m.2.2 ≤ μ.2.2 + 19700) → ex_q (dt_fg L ρ) rc (d + 14, (0, 1788, [some (eR 1), some (eR 64), some (eR 98), some (eI (i))], []), F, m)) : ex_q (dt_fg L ρ) rc (d + 14, (0, 1350, [some (eR 1), some (eR 64), some (eR 98), some (eI (i))], []), F, μ) := by
  refine w_s (np := 1351) (lv' := [some (eR 1), some (eR 64), some (eR 98), some (eI (i))]) (st' := [eR 64]) rfl rfl rfl ?_
  refine w_s (np := 1352) (lv' := [some (eR 1), some (eR 64), some (eR 98), some (eI (i))]) (st' := [eR 1, eR 64]) rfl rfl rfl ?_
  refine w_s (np := 1353) (lv' := [some (eR 1), some (eR 64), some (eR 98), some (eI (i))]) (st' := [eI (i), eR 1, eR 64]) rfl rfl rfl ?_
  refine w_s (np := 1354) (lv' := [some (eR 1), some (eR 64), some (eR 98), some (eI (i))]) (st' := [eI (1), eI (i), eR 1, eR 64]) rfl rfl rfl ?_
  have w1 : ev_w (i + 1) = (i + 1) := ev_w_in (by omega) (by omega)
  refine w_s (np := 1355) (lv' := [some (eR 1), some (eR 64), some (eR 98), some (eI (i))]) (st' := [eI (i + 1), eR 1, eR 64]) rfl (congrArg (fun q : Int => (some ([some (eR 1), some (eR 64), some (eR 98), some (eI (i))], eI q :: [eR 1, eR 64]) : Option (List (Option eV) × List eV))) w1) rfl ?_
  refine w_al (np := 1356) (v := ρ (i + 1).toNat) rfl rfl (lw_sc hL (by omega) (by omega)) ?_
  refine w_s (np := 1357) (lv' := [some (eR 1), some (eR 64), some (eR 98), some (eI (i))]) (st' := [eR 1, eI (ρ (i + 1).toNat), eR 64]) rfl rfl rfl ?_
  refine w_s (np := 1358) (lv' := [some (eR 1), some (eR 64), some (eR 98), some (eI (i))]) (st' := [eI (i), eR 1, eI (ρ (i + 1).toNat), eR 64]) rfl rfl rfl ?_
  refine w_s (np := 1359) (lv' := [some (eR 1), some (eR 64), some (eR 98), some (eI (i))]) (st' := [eI (2), eI (i), eR 1, eI (ρ (i + 1).toNat), eR 64]) rfl rfl rfl ?_
  have w2 : ev_w (i + 2) = (i + 2) := ev_w_in (by omega) (by omega)
  refine w_s (np := 1360) (lv' := [some (eR 1), some (eR 64), some (eR 98), some (eI (i))]) (st' := [eI (i + 2), eR 1, eI (ρ (i + 1).toNat), eR 64]) rfl (congrArg (fun q : Int => (some ([some (eR 1), some (eR 64), some (eR 98), some (eI (i))], eI q :: [eR 1, eI (ρ (i + 1).toNat), eR 64]) : Option (List (Option eV) × List eV))) w2) rfl ?_
  refine w_al (np := 1361) (v := ρ (i + 2).toNat) rfl rfl (lw_sc hL (by omega) (by omega)) ?_
  refine w_cw (np := 1364) (as := [eI (ρ (i + 1).toNat), eI (ρ (i + 2).toNat)]) (l2 := [some (eR 64), some (eI (ρ (i + 1).toNat)), some (eI (ρ (i + 2).toNat))]) (rest := []) rfl rfl rfl (Nat.ble_eq.mp rfl) rfl rfl rfl (hI.kd g64 (by decide) (n := 14) rfl) rfl ?_
  refine s_189 (a1 := ρ (i + 1).toNat) (a2 := ρ (i + 2).toNat) hI g64 (hρ _) (hρ _)  ?_
  intro m5 v3 I6 F7 b4
  have p8 : RP g m5 := RP.fr hP F7 rfl
  have b9 := HB.fr hB g64 F7 rfl
  have e10 : m5.1 64 10 = μ.1 64 10 := F7.k rfl g64 (by decide) rfl
  show ex_q (dt_fg L ρ) rc (d + 14, (0, 1364, [some (eR 1), some (eR 64), some (eR 98), some (eI (i))], [eI v3]), F, m5)
  refine w_s (np := 1365) (lv' := [some (eR 1), some (eR 64), some (eR 98), some (eI (i))]) (st' := []) rfl rfl rfl ?_
  refine w_s (np := 1366) (lv' := [some (eR 1), some (eR 64), some (eR 98), some (eI (i))]) (st' := [eR 98]) rfl rfl rfl ?_
  refine w_s (np := 1367) (lv' := [some (eR 1), some (eR 64), some (eR 98), some (eI (i))]) (st' := [eR 1, eR 98]) rfl rfl rfl ?_
  refine w_s (np := 1368) (lv' := [some (eR 1), some (eR 64), some (eR 98), some (eI (i))]) (st' := [eI (i), eR 1, eR 98]) rfl rfl rfl ?_
  refine w_s (np := 1369) (lv' := [some (eR 1), some (eR 64), some (eR 98), some (eI (i))]) (st' := [eI (1), eI (i), eR 1, eR 98]) rfl rfl rfl ?_
  have w11 : ev_w (i + 1) = (i + 1) := ev_w_in (by omega) (by omega)
  refine w_s (np := 1370) (lv' := [some (eR 1), some (eR 64), some (eR 98), some (eI (i))]) (st' := [eI (i + 1), eR 1, eR 98]) rfl (congrArg (fun q : Int => (some ([some (eR 1), some (eR 64), some (eR 98), some (eI (i))], eI q :: [eR 1, eR 98]) : Option (List (Option eV) × List eV))) w11) rfl ?_
  refine w_al (np := 1371) (v := ρ (i + 1).toNat) rfl rfl (lw_sc hL (by omega) (by omega)) ?_
  refine w_s (np := 1372) (lv' := [some (eR 1), some (eR 64), some (eR 98), some (eI (i))]) (st' := [eR 1, eI (ρ (i + 1).toNat), eR 98]) rfl rfl rfl ?_
  refine w_s (np := 1373) (lv' := [some (eR 1), some (eR 64), some (eR 98), some (eI (i))]) (st' := [eI (i), eR 1, eI (ρ (i + 1).toNat), eR 98]) rfl rfl rfl ?_
  refine w_s (np := 1374) (lv' := [some (eR 1), some (eR 64), some (eR 98), some (eI (i))]) (st' := [eI (2), eI (i), eR 1, eI (ρ (i + 1).toNat), eR 98]) rfl rfl rfl ?_
  have w12 : ev_w (i + 2) = (i + 2) := ev_w_in (by omega) (by omega)
  refine w_s (np := 1375) (lv' := [some (eR 1), some (eR 64), some (eR 98), some (eI (i))]) (st' := [eI (i + 2), eR 1, eI (ρ (i + 1).toNat), eR 98]) rfl (congrArg (fun q : Int => (some ([some (eR 1), some (eR 64), some (eR 98), some (eI (i))], eI q :: [eR 1, eI (ρ (i + 1).toNat), eR 98]) : Option (List (Option eV) × List eV))) w12) rfl ?_
  refine w_al (np := 1376) (v := ρ (i + 2).toNat) rfl rfl (lw_sc hL (by omega) (by omega)) ?_
  refine w_cw (np := 1379) (as := [eI (ρ (i + 1).toNat), eI (ρ (i + 2).toNat)]) (l2 := [some (eR 98), some (eI (ρ (i + 1).toNat)), some (eI (ρ (i + 2).toNat))]) (rest := []) rfl rfl rfl (Nat.ble_eq.mp rfl) rfl rfl rfl (I6.kd g98 (by decide) (n := 69) rfl) rfl ?_
  refine s_319 (a1 := ρ (i + 1).toNat) (a2 := ρ (i + 2).toNat) I6 g98 (hρ _) (hρ _)  ?_
  intro m15 v13 I16 F17 b14
  have p18 : RP g m15 := RP.fr p8 F17 rfl
  have b19 := HB.fr b9 g64 F17 rfl
  have e20 : m15.1 64 10 = m5.1 64 10 := F17.k rfl g64 (by decide) rfl
  show ex_q (dt_fg L ρ) rc (d + 14, (0, 1379, [some (eR 1), some (eR 64), some (eR 98), some (eI (i))], [eI v13]), F, m15)
  refine w_s (np := 1380) (lv' := [some (eR 1), some (eR 64), some (eR 98), some (eI (i))]) (st' := []) rfl rfl rfl ?_
  refine w_go (t1 := 1788) rfl rfl ?_
  exact K g m15 (GP.r hI.1) I16 p18 b19 (by have h0z := F7.1; have h1z := F17.1; omega) (Or.inl ⟨(by have h0z := F7.2.1; have h1z := F17.2.1; omega), fun q => (by rw [e20, e10]; exact q)⟩)
theorem o_35 {L : Nat} {ρ : Nat → Int} {rc : eQ} {d : Nat} {F : List eFr} {μ : eM} {g : Nat → Nat} {i : Int} (hL : L ≤ 4096) (hρ : ∀ j, -2147483648 ≤ ρ j ∧ ρ j ≤ 2147483647) (hi : 0 ≤ i ∧ i + 8 ≤ (L : Int)) (hI : SI g μ) (g64 : g 64 = 1) (g98 : g 98 = 52) (hP : RP g μ) (hB : HB g μ 64) (K : ∀ (g2 : Nat → Nat) (m : eM), GP g g2 → SI g2 m → RP g2 m → HB g2 m 64 → m.2.1.length ≤ μ.2.1.length + 250 → (m.2.2 ≤ μ.2.2 + 10281 ∧ (μ.1 64 10 ≠ 0 → m.1 64 10 ≠ 0) ∨ μ.1 64 10 = 0 ∧ m.1 64 10 ≠ 0 ∧ m.2.2 ≤ μ.2.2 + 19700) → ex_q (dt_fg L ρ) rc (d + 14, (0, 1788, [some (eR 1), some (eR 64), some (eR 98), some (eI (i))], []), F, m)) : ex_q (dt_fg L ρ) rc (d + 14, (0, 1383, [some (eR 1), some (eR 64), some (eR 98), some (eI (i))], []), F, μ) := by
  refine w_s (np := 1384) (lv' := [some (eR 1), some (eR 64), some (eR 98), some (eI (i))]) (st' := [eR 64]) rfl rfl rfl ?_
  refine w_s (np := 1385) (lv' := [some (eR 1), some (eR 64), some (eR 98), some (eI (i))]) (st' := [eR 1, eR 64]) rfl rfl rfl ?_
  refine w_s (np := 1386) (lv' := [some (eR 1), some (eR 64), some (eR 98), some (eI (i))]) (st' := [eI (i), eR 1, eR 64]) rfl rfl rfl ?_
  refine w_s (np := 1387) (lv' := [some (eR 1), some (eR 64), some (eR 98), some (eI (i))]) (st' := [eI (1), eI (i), eR 1, eR 64]) rfl rfl rfl ?_
  have w1 : ev_w (i + 1) = (i + 1) := ev_w_in (by omega) (by omega)
  refine w_s (np := 1388) (lv' := [some (eR 1), some (eR 64), some (eR 98), some (eI (i))]) (st' := [eI (i + 1), eR 1, eR 64]) rfl (congrArg (fun q : Int => (some ([some (eR 1), some (eR 64), some (eR 98), some (eI (i))], eI q :: [eR 1, eR 64]) : Option (List (Option eV) × List eV))) w1) rfl ?_
  refine w_al (np := 1389) (v := ρ (i + 1).toNat) rfl rfl (lw_sc hL (by omega) (by omega)) ?_
  refine w_s (np := 1390) (lv' := [some (eR 1), some (eR 64), some (eR 98), some (eI (i))]) (st' := [eR 1, eI (ρ (i + 1).toNat), eR 64]) rfl rfl rfl ?_
  refine w_s (np := 1391) (lv' := [some (eR 1), some (eR 64), some (eR 98), some (eI (i))]) (st' := [eI (i), eR 1, eI (ρ (i + 1).toNat), eR 64]) rfl rfl rfl ?_
  refine w_s (np := 1392) (lv' := [some (eR 1), some (eR 64), some (eR 98), some (eI (i))]) (st' := [eI (2), eI (i), eR 1, eI (ρ (i + 1).toNat), eR 64]) rfl rfl rfl ?_
  have w2 : ev_w (i + 2) = (i + 2) := ev_w_in (by omega) (by omega)
  refine w_s (np := 1393) (lv' := [some (eR 1), some (eR 64), some (eR 98), some (eI (i))]) (st' := [eI (i + 2), eR 1, eI (ρ (i + 1).toNat), eR 64]) rfl (congrArg (fun q : Int => (some ([some (eR 1), some (eR 64), some (eR 98), some (eI (i))], eI q :: [eR 1, eI (ρ (i + 1).toNat), eR 64]) : Option (List (Option eV) × List eV))) w2) rfl ?_
  refine w_al (np := 1394) (v := ρ (i + 2).toNat) rfl rfl (lw_sc hL (by omega) (by omega)) ?_
  refine w_s (np := 1395) (lv' := [some (eR 1), some (eR 64), some (eR 98), some (eI (i))]) (st' := [eR 1, eI (ρ (i + 2).toNat), eI (ρ (i + 1).toNat), eR 64]) rfl rfl rfl ?_
  refine w_s (np := 1396) (lv' := [some (eR 1), some (eR 64), some (eR 98), some (eI (i))]) (st' := [eI (i), eR 1, eI (ρ (i + 2).toNat), eI (ρ (i + 1).toNat), eR 64]) rfl rfl rfl ?_
  refine w_s (np := 1397) (lv' := [some (eR 1), some (eR 64), some (eR 98), some (eI (i))]) (st' := [eI (3), eI (i), eR 1, eI (ρ (i + 2).toNat), eI (ρ (i + 1).toNat), eR 64]) rfl rfl rfl ?_
  have w3 : ev_w (i + 3) = (i + 3) := ev_w_in (by omega) (by omega)
  refine w_s (np := 1398) (lv' := [some (eR 1), some (eR 64), some (eR 98), some (eI (i))]) (st' := [eI (i + 3), eR 1, eI (ρ (i + 2).toNat), eI (ρ (i + 1).toNat), eR 64]) rfl (congrArg (fun q : Int => (some ([some (eR 1), some (eR 64), some (eR 98), some (eI (i))], eI q :: [eR 1, eI (ρ (i + 2).toNat), eI (ρ (i + 1).toNat), eR 64]) : Option (List (Option eV) × List eV))) w3) rfl ?_
  refine w_al (np := 1399) (v := ρ (i + 3).toNat) rfl rfl (lw_sc hL (by omega) (by omega)) ?_
  refine w_cw (np := 1402) (as := [eI (ρ (i + 1).toNat), eI (ρ (i + 2).toNat), eI (ρ (i + 3).toNat)]) (l2 := [some (eR 64), some (eI (ρ (i + 1).toNat)), some (eI (ρ (i + 2).toNat)), some (eI (ρ (i + 3).toNat))]) (rest := []) rfl rfl rfl (Nat.ble_eq.mp rfl) rfl rfl rfl (hI.kd g64 (by decide) (n := 14) rfl) rfl ?_
  refine s_190 (a1 := ρ (i + 1).toNat) (a2 := ρ (i + 2).toNat) (a3 := ρ (i + 3).toNat) hI g64 (hρ _) (hρ _) (hρ _)  ?_
  intro m6 v4 I7 F8 b5
  have p9 : RP g m6 := RP.fr hP F8 rfl
  have b10 := HB.fr hB g64 F8 rfl
  have e11 : m6.1 64 10 = μ.1 64 10 := F8.k rfl g64 (by decide) rfl
  show ex_q (dt_fg L ρ) rc (d + 14, (0, 1402, [some (eR 1), some (eR 64), some (eR 98), some (eI (i))], [eI v4]), F, m6)
  refine w_s (np := 1403) (lv' := [some (eR 1), some (eR 64), some (eR 98), some (eI (i))]) (st' := []) rfl rfl rfl ?_
  refine w_s (np := 1404) (lv' := [some (eR 1), some (eR 64), some (eR 98), some (eI (i))]) (st' := [eR 98]) rfl rfl rfl ?_
  refine w_s (np := 1405) (lv' := [some (eR 1), some (eR 64), some (eR 98), some (eI (i))]) (st' := [eR 1, eR 98]) rfl rfl rfl ?_
  refine w_s (np := 1406) (lv' := [some (eR 1), some (eR 64), some (eR 98), some (eI (i))]) (st' := [eI (i), eR 1, eR 98]) rfl rfl rfl ?_
  refine w_s (np := 1407) (lv' := [some (eR 1), some (eR 64), some (eR 98), some (eI (i))]) (st' := [eI (1), eI (i), eR 1, eR 98]) rfl rfl rfl ?_
  have w12 : ev_w (i + 1) = (i + 1) := ev_w_in (by omega) (by omega)
  refine w_s (np := 1408) (lv' := [some (eR 1), some (eR 64), some (eR 98), some (eI (i))]) (st' := [eI (i + 1), eR 1, eR 98]) rfl (congrArg (fun q : Int => (some ([some (eR 1), some (eR 64), some (eR 98), some (eI (i))], eI q :: [eR 1, eR 98]) : Option (List (Option eV) × List eV))) w12) rfl ?_
  refine w_al (np := 1409) (v := ρ (i + 1).toNat) rfl rfl (lw_sc hL (by omega) (by omega)) ?_
  refine w_s (np := 1410) (lv' := [some (eR 1), some (eR 64), some (eR 98), some (eI (i))]) (st' := [eR 1, eI (ρ (i + 1).toNat), eR 98]) rfl rfl rfl ?_
  refine w_s (np := 1411) (lv' := [some (eR 1), some (eR 64), some (eR 98), some (eI (i))]) (st' := [eI (i), eR 1, eI (ρ (i + 1).toNat), eR 98]) rfl rfl rfl ?_
  refine w_s (np := 1412) (lv' := [some (eR 1), some (eR 64), some (eR 98), some (eI (i))]) (st' := [eI (2), eI (i), eR 1, eI (ρ (i + 1).toNat), eR 98]) rfl rfl rfl ?_
  have w13 : ev_w (i + 2) = (i + 2) := ev_w_in (by omega) (by omega)
  refine w_s (np := 1413) (lv' := [some (eR 1), some (eR 64), some (eR 98), some (eI (i))]) (st' := [eI (i + 2), eR 1, eI (ρ (i + 1).toNat), eR 98]) rfl (congrArg (fun q : Int => (some ([some (eR 1), some (eR 64), some (eR 98), some (eI (i))], eI q :: [eR 1, eI (ρ (i + 1).toNat), eR 98]) : Option (List (Option eV) × List eV))) w13) rfl ?_
  refine w_al (np := 1414) (v := ρ (i + 2).toNat) rfl rfl (lw_sc hL (by omega) (by omega)) ?_
  refine w_s (np := 1415) (lv' := [some (eR 1), some (eR 64), some (eR 98), some (eI (i))]) (st' := [eR 1, eI (ρ (i + 2).toNat), eI (ρ (i + 1).toNat), eR 98]) rfl rfl rfl ?_
  refine w_s (np := 1416) (lv' := [some (eR 1), some (eR 64), some (eR 98), some (eI (i))]) (st' := [eI (i), eR 1, eI (ρ (i + 2).toNat), eI (ρ (i + 1).toNat), eR 98]) rfl rfl rfl ?_
  refine w_s (np := 1417) (lv' := [some (eR 1), some (eR 64), some (eR 98), some (eI (i))]) (st' := [eI (3), eI (i), eR 1, eI (ρ (i + 2).toNat), eI (ρ (i + 1).toNat), eR 98]) rfl rfl rfl ?_
  have w14 : ev_w (i + 3) = (i + 3) := ev_w_in (by omega) (by omega)
  refine w_s (np := 1418) (lv' := [some (eR 1), some (eR 64), some (eR 98), some (eI (i))]) (st' := [eI (i + 3), eR 1, eI (ρ (i + 2).toNat), eI (ρ (i + 1).toNat), eR 98]) rfl (congrArg (fun q : Int => (some ([some (eR 1), some (eR 64), some (eR 98), some (eI (i))], eI q :: [eR 1, eI (ρ (i + 2).toNat), eI (ρ (i + 1).toNat), eR 98]) : Option (List (Option eV) × List eV))) w14) rfl ?_
  refine w_al (np := 1419) (v := ρ (i + 3).toNat) rfl rfl (lw_sc hL (by omega) (by omega)) ?_
  refine w_cw (np := 1422) (as := [eI (ρ (i + 1).toNat), eI (ρ (i + 2).toNat), eI (ρ (i + 3).toNat)]) (l2 := [some (eR 98), some (eI (ρ (i + 1).toNat)), some (eI (ρ (i + 2).toNat)), some (eI (ρ (i + 3).toNat))]) (rest := []) rfl rfl rfl (Nat.ble_eq.mp rfl) rfl rfl rfl (I7.kd g98 (by decide) (n := 69) rfl) rfl ?_
  refine s_320 (a1 := ρ (i + 1).toNat) (a2 := ρ (i + 2).toNat) (a3 := ρ (i + 3).toNat) I7 g98 (hρ _) (hρ _) (hρ _)  ?_
  intro m17 v15 I18 F19 b16
  have p20 : RP g m17 := RP.fr p9 F19 rfl
  have b21 := HB.fr b10 g64 F19 rfl
  have e22 : m17.1 64 10 = m6.1 64 10 := F19.k rfl g64 (by decide) rfl
  show ex_q (dt_fg L ρ) rc (d + 14, (0, 1422, [some (eR 1), some (eR 64), some (eR 98), some (eI (i))], [eI v15]), F, m17)
  refine w_s (np := 1423) (lv' := [some (eR 1), some (eR 64), some (eR 98), some (eI (i))]) (st' := []) rfl rfl rfl ?_
  refine w_go (t1 := 1788) rfl rfl ?_
  exact K g m17 (GP.r hI.1) I18 p20 b21 (by have h0z := F8.1; have h1z := F19.1; omega) (Or.inl ⟨(by have h0z := F8.2.1; have h1z := F19.2.1; omega), fun q => (by rw [e22, e11]; exact q)⟩)
theorem o_36 {L : Nat} {ρ : Nat → Int} {rc : eQ} {d : Nat} {F : List eFr} {μ : eM} {g : Nat → Nat} {i : Int} (hL : L ≤ 4096) (hρ : ∀ j, -2147483648 ≤ ρ j ∧ ρ j ≤ 2147483647) (hi : 0 ≤ i ∧ i + 8 ≤ (L : Int)) (hI : SI g μ) (g64 : g 64 = 1) (g98 : g 98 = 52) (hP : RP g μ) (hB : HB g μ 64) (K : ∀ (g2 : Nat → Nat) (m : eM), GP g g2 → SI g2 m → RP g2 m → HB g2 m 64 → m.2.1.length ≤ μ.2.1.length + 250 → (m.2.2 ≤ μ.2.2 + 10281 ∧ (μ.1 64 10 ≠ 0 → m.1 64 10 ≠ 0) ∨ μ.1 64 10 = 0 ∧ m.1 64 10 ≠ 0 ∧ m.2.2 ≤ μ.2.2 + 19700) → ex_q (dt_fg L ρ) rc (d + 14, (0, 1788, [some (eR 1), some (eR 64), some (eR 98), some (eI (i))], []), F, m)) : ex_q (dt_fg L ρ) rc (d + 14, (0, 1426, [some (eR 1), some (eR 64), some (eR 98), some (eI (i))], []), F, μ) := by
  refine w_s (np := 1427) (lv' := [some (eR 1), some (eR 64), some (eR 98), some (eI (i))]) (st' := [eR 64]) rfl rfl rfl ?_
  refine w_s (np := 1428) (lv' := [some (eR 1), some (eR 64), some (eR 98), some (eI (i))]) (st' := [eR 1, eR 64]) rfl rfl rfl ?_
  refine w_s (np := 1429) (lv' := [some (eR 1), some (eR 64), some (eR 98), some (eI (i))]) (st' := [eI (i), eR 1, eR 64]) rfl rfl rfl ?_
  refine w_s (np := 1430) (lv' := [some (eR 1), some (eR 64), some (eR 98), some (eI (i))]) (st' := [eI (1), eI (i), eR 1, eR 64]) rfl rfl rfl ?_
  have w1 : ev_w (i + 1) = (i + 1) := ev_w_in (by omega) (by omega)
  refine w_s (np := 1431) (lv' := [some (eR 1), some (eR 64), some (eR 98), some (eI (i))]) (st' := [eI (i + 1), eR 1, eR 64]) rfl (congrArg (fun q : Int => (some ([some (eR 1), some (eR 64), some (eR 98), some (eI (i))], eI q :: [eR 1, eR 64]) : Option (List (Option eV) × List eV))) w1) rfl ?_
  refine w_al (np := 1432) (v := ρ (i + 1).toNat) rfl rfl (lw_sc hL (by omega) (by omega)) ?_
  refine w_s (np := 1433) (lv' := [some (eR 1), some (eR 64), some (eR 98), some (eI (i))]) (st' := [eR 1, eI (ρ (i + 1).toNat), eR 64]) rfl rfl rfl ?_
  refine w_s (np := 1434) (lv' := [some (eR 1), some (eR 64), some (eR 98), some (eI (i))]) (st' := [eI (i), eR 1, eI (ρ (i + 1).toNat), eR 64]) rfl rfl rfl ?_
  refine w_s (np := 1435) (lv' := [some (eR 1), some (eR 64), some (eR 98), some (eI (i))]) (st' := [eI (2), eI (i), eR 1, eI (ρ (i + 1).toNat), eR 64]) rfl rfl rfl ?_
  have w2 : ev_w (i + 2) = (i + 2) := ev_w_in (by omega) (by omega)
  refine w_s (np := 1436) (lv' := [some (eR 1), some (eR 64), some (eR 98), some (eI (i))]) (st' := [eI (i + 2), eR 1, eI (ρ (i + 1).toNat), eR 64]) rfl (congrArg (fun q : Int => (some ([some (eR 1), some (eR 64), some (eR 98), some (eI (i))], eI q :: [eR 1, eI (ρ (i + 1).toNat), eR 64]) : Option (List (Option eV) × List eV))) w2) rfl ?_
  refine w_al (np := 1437) (v := ρ (i + 2).toNat) rfl rfl (lw_sc hL (by omega) (by omega)) ?_
  refine w_cw (np := 1440) (as := [eI (ρ (i + 1).toNat), eI (ρ (i + 2).toNat)]) (l2 := [some (eR 64), some (eI (ρ (i + 1).toNat)), some (eI (ρ (i + 2).toNat))]) (rest := []) rfl rfl rfl (Nat.ble_eq.mp rfl) rfl rfl rfl (hI.kd g64 (by decide) (n := 14) rfl) rfl ?_
  refine s_191 (a1 := ρ (i + 1).toNat) (a2 := ρ (i + 2).toNat) hI g64 (hρ _) (hρ _)  ?_
  intro m5 v3 I6 F7 b4
  have p8 : RP g m5 := RP.fr hP F7 rfl
  have b9 := HB.fr hB g64 F7 rfl
  have e10 : m5.1 64 10 = μ.1 64 10 := F7.k rfl g64 (by decide) rfl
  show ex_q (dt_fg L ρ) rc (d + 14, (0, 1440, [some (eR 1), some (eR 64), some (eR 98), some (eI (i))], [eI v3]), F, m5)
  refine w_s (np := 1441) (lv' := [some (eR 1), some (eR 64), some (eR 98), some (eI (i))]) (st' := []) rfl rfl rfl ?_
  refine w_s (np := 1442) (lv' := [some (eR 1), some (eR 64), some (eR 98), some (eI (i))]) (st' := [eR 98]) rfl rfl rfl ?_
  refine w_s (np := 1443) (lv' := [some (eR 1), some (eR 64), some (eR 98), some (eI (i))]) (st' := [eR 1, eR 98]) rfl rfl rfl ?_
  refine w_s (np := 1444) (lv' := [some (eR 1), some (eR 64), some (eR 98), some (eI (i))]) (st' := [eI (i), eR 1, eR 98]) rfl rfl rfl ?_
  refine w_s (np := 1445) (lv' := [some (eR 1), some (eR 64), some (eR 98), some (eI (i))]) (st' := [eI (1), eI (i), eR 1, eR 98]) rfl rfl rfl ?_
  have w11 : ev_w (i + 1) = (i + 1) := ev_w_in (by omega) (by omega)
  refine w_s (np := 1446) (lv' := [some (eR 1), some (eR 64), some (eR 98), some (eI (i))]) (st' := [eI (i + 1), eR 1, eR 98]) rfl (congrArg (fun q : Int => (some ([some (eR 1), some (eR 64), some (eR 98), some (eI (i))], eI q :: [eR 1, eR 98]) : Option (List (Option eV) × List eV))) w11) rfl ?_
  refine w_al (np := 1447) (v := ρ (i + 1).toNat) rfl rfl (lw_sc hL (by omega) (by omega)) ?_
  refine w_s (np := 1448) (lv' := [some (eR 1), some (eR 64), some (eR 98), some (eI (i))]) (st' := [eR 1, eI (ρ (i + 1).toNat), eR 98]) rfl rfl rfl ?_
  refine w_s (np := 1449) (lv' := [some (eR 1), some (eR 64), some (eR 98), some (eI (i))]) (st' := [eI (i), eR 1, eI (ρ (i + 1).toNat), eR 98]) rfl rfl rfl ?_
  refine w_s (np := 1450) (lv' := [some (eR 1), some (eR 64), some (eR 98), some (eI (i))]) (st' := [eI (2), eI (i), eR 1, eI (ρ (i + 1).toNat), eR 98]) rfl rfl rfl ?_
  have w12 : ev_w (i + 2) = (i + 2) := ev_w_in (by omega) (by omega)
  refine w_s (np := 1451) (lv' := [some (eR 1), some (eR 64), some (eR 98), some (eI (i))]) (st' := [eI (i + 2), eR 1, eI (ρ (i + 1).toNat), eR 98]) rfl (congrArg (fun q : Int => (some ([some (eR 1), some (eR 64), some (eR 98), some (eI (i))], eI q :: [eR 1, eI (ρ (i + 1).toNat), eR 98]) : Option (List (Option eV) × List eV))) w12) rfl ?_
  refine w_al (np := 1452) (v := ρ (i + 2).toNat) rfl rfl (lw_sc hL (by omega) (by omega)) ?_
  refine w_cw (np := 1455) (as := [eI (ρ (i + 1).toNat), eI (ρ (i + 2).toNat)]) (l2 := [some (eR 98), some (eI (ρ (i + 1).toNat)), some (eI (ρ (i + 2).toNat))]) (rest := []) rfl rfl rfl (Nat.ble_eq.mp rfl) rfl rfl rfl (I6.kd g98 (by decide) (n := 69) rfl) rfl ?_
  refine s_321 (a1 := ρ (i + 1).toNat) (a2 := ρ (i + 2).toNat) I6 g98 (hρ _) (hρ _)  ?_
  intro m15 v13 I16 F17 b14
  have p18 : RP g m15 := RP.fr p8 F17 rfl
  have b19 := HB.fr b9 g64 F17 rfl
  have e20 : m15.1 64 10 = m5.1 64 10 := F17.k rfl g64 (by decide) rfl
  show ex_q (dt_fg L ρ) rc (d + 14, (0, 1455, [some (eR 1), some (eR 64), some (eR 98), some (eI (i))], [eI v13]), F, m15)
  refine w_s (np := 1456) (lv' := [some (eR 1), some (eR 64), some (eR 98), some (eI (i))]) (st' := []) rfl rfl rfl ?_
  refine w_go (t1 := 1788) rfl rfl ?_
  exact K g m15 (GP.r hI.1) I16 p18 b19 (by have h0z := F7.1; have h1z := F17.1; omega) (Or.inl ⟨(by have h0z := F7.2.1; have h1z := F17.2.1; omega), fun q => (by rw [e20, e10]; exact q)⟩)
theorem o_37 {L : Nat} {ρ : Nat → Int} {rc : eQ} {d : Nat} {F : List eFr} {μ : eM} {g : Nat → Nat} {i : Int} (hL : L ≤ 4096) (hρ : ∀ j, -2147483648 ≤ ρ j ∧ ρ j ≤ 2147483647) (hi : 0 ≤ i ∧ i + 8 ≤ (L : Int)) (hI : SI g μ) (g64 : g 64 = 1) (g98 : g 98 = 52) (hP : RP g μ) (hB : HB g μ 64) (K : ∀ (g2 : Nat → Nat) (m : eM), GP g g2 → SI g2 m → RP g2 m → HB g2 m 64 → m.2.1.length ≤ μ.2.1.length + 250 → (m.2.2 ≤ μ.2.2 + 10281 ∧ (μ.1 64 10 ≠ 0 → m.1 64 10 ≠ 0) ∨ μ.1 64 10 = 0 ∧ m.1 64 10 ≠ 0 ∧ m.2.2 ≤ μ.2.2 + 19700) → ex_q (dt_fg L ρ) rc (d + 14, (0, 1788, [some (eR 1), some (eR 64), some (eR 98), some (eI (i))], []), F, m)) : ex_q (dt_fg L ρ) rc (d + 14, (0, 1459, [some (eR 1), some (eR 64), some (eR 98), some (eI (i))], []), F, μ) := by
  refine w_s (np := 1460) (lv' := [some (eR 1), some (eR 64), some (eR 98), some (eI (i))]) (st' := [eR 64]) rfl rfl rfl ?_
  refine w_s (np := 1461) (lv' := [some (eR 1), some (eR 64), some (eR 98), some (eI (i))]) (st' := [eR 1, eR 64]) rfl rfl rfl ?_
  refine w_s (np := 1462) (lv' := [some (eR 1), some (eR 64), some (eR 98), some (eI (i))]) (st' := [eI (i), eR 1, eR 64]) rfl rfl rfl ?_
  refine w_s (np := 1463) (lv' := [some (eR 1), some (eR 64), some (eR 98), some (eI (i))]) (st' := [eI (1), eI (i), eR 1, eR 64]) rfl rfl rfl ?_
  have w1 : ev_w (i + 1) = (i + 1) := ev_w_in (by omega) (by omega)
  refine w_s (np := 1464) (lv' := [some (eR 1), some (eR 64), some (eR 98), some (eI (i))]) (st' := [eI (i + 1), eR 1, eR 64]) rfl (congrArg (fun q : Int => (some ([some (eR 1), some (eR 64), some (eR 98), some (eI (i))], eI q :: [eR 1, eR 64]) : Option (List (Option eV) × List eV))) w1) rfl ?_
  refine w_al (np := 1465) (v := ρ (i + 1).toNat) rfl rfl (lw_sc hL (by omega) (by omega)) ?_
  refine w_cw (np := 1468) (as := [eI (ρ (i + 1).toNat)]) (l2 := [some (eR 64), some (eI (ρ (i + 1).toNat))]) (rest := []) rfl rfl rfl (Nat.ble_eq.mp rfl) rfl rfl rfl (hI.kd g64 (by decide) (n := 14) rfl) rfl ?_
  refine s_192 (a1 := ρ (i + 1).toNat) hI g64 (hρ _)  ?_
  intro m4 v2 I5 F6 b3
  have p7 : RP g m4 := RP.fr hP F6 rfl
  have b8 := HB.fr hB g64 F6 rfl
  have e9 : m4.1 64 10 = μ.1 64 10 := F6.k rfl g64 (by decide) rfl
  show ex_q (dt_fg L ρ) rc (d + 14, (0, 1468, [some (eR 1), some (eR 64), some (eR 98), some (eI (i))], [eI v2]), F, m4)
  refine w_s (np := 1469) (lv' := [some (eR 1), some (eR 64), some (eR 98), some (eI (i))]) (st' := []) rfl rfl rfl ?_
  refine w_s (np := 1470) (lv' := [some (eR 1), some (eR 64), some (eR 98), some (eI (i))]) (st' := [eR 98]) rfl rfl rfl ?_
  refine w_s (np := 1471) (lv' := [some (eR 1), some (eR 64), some (eR 98), some (eI (i))]) (st' := [eR 1, eR 98]) rfl rfl rfl ?_
  refine w_s (np := 1472) (lv' := [some (eR 1), some (eR 64), some (eR 98), some (eI (i))]) (st' := [eI (i), eR 1, eR 98]) rfl rfl rfl ?_
  refine w_s (np := 1473) (lv' := [some (eR 1), some (eR 64), some (eR 98), some (eI (i))]) (st' := [eI (1), eI (i), eR 1, eR 98]) rfl rfl rfl ?_
  have w10 : ev_w (i + 1) = (i + 1) := ev_w_in (by omega) (by omega)
  refine w_s (np := 1474) (lv' := [some (eR 1), some (eR 64), some (eR 98), some (eI (i))]) (st' := [eI (i + 1), eR 1, eR 98]) rfl (congrArg (fun q : Int => (some ([some (eR 1), some (eR 64), some (eR 98), some (eI (i))], eI q :: [eR 1, eR 98]) : Option (List (Option eV) × List eV))) w10) rfl ?_
  refine w_al (np := 1475) (v := ρ (i + 1).toNat) rfl rfl (lw_sc hL (by omega) (by omega)) ?_
  refine w_cw (np := 1478) (as := [eI (ρ (i + 1).toNat)]) (l2 := [some (eR 98), some (eI (ρ (i + 1).toNat))]) (rest := []) rfl rfl rfl (Nat.ble_eq.mp rfl) rfl rfl rfl (I5.kd g98 (by decide) (n := 69) rfl) rfl ?_
  refine s_326 (a1 := ρ (i + 1).toNat) I5 g98 (hρ _)  ?_
  intro m13 v11 I14 F15 b12
  have p16 : RP g m13 := RP.fr p7 F15 rfl
  have b17 := HB.fr b8 g64 F15 rfl
  have e18 : m13.1 64 10 = m4.1 64 10 := F15.k rfl g64 (by decide) rfl
  show ex_q (dt_fg L ρ) rc (d + 14, (0, 1478, [some (eR 1), some (eR 64), some (eR 98), some (eI (i))], [eI v11]), F, m13)
  refine w_s (np := 1479) (lv' := [some (eR 1), some (eR 64), some (eR 98), some (eI (i))]) (st' := []) rfl rfl rfl ?_
  refine w_go (t1 := 1788) rfl rfl ?_
  exact K g m13 (GP.r hI.1) I14 p16 b17 (by have h0z := F6.1; have h1z := F15.1; omega) (Or.inl ⟨(by have h0z := F6.2.1; have h1z := F15.2.1; omega), fun q => (by rw [e18, e9]; exact q)⟩)
theorem o_38 {L : Nat} {ρ : Nat → Int} {rc : eQ} {d : Nat} {F : List eFr} {μ : eM} {g : Nat → Nat} {i : Int} (hL : L ≤ 4096) (hρ : ∀ j, -2147483648 ≤ ρ j ∧ ρ j ≤ 2147483647) (hi : 0 ≤ i ∧ i + 8 ≤ (L : Int)) (hI : SI g μ) (g64 : g 64 = 1) (g98 : g 98 = 52) (hP : RP g μ) (hB : HB g μ 64) (K : ∀ (g2 : Nat → Nat) (m : eM), GP g g2 → SI g2 m → RP g2 m → HB g2 m 64 → m.2.1.length ≤ μ.2.1.length + 250 → (m.2.2 ≤ μ.2.2 + 10281 ∧ (μ.1 64 10 ≠ 0 → m.1 64 10 ≠ 0) ∨ μ.1 64 10 = 0 ∧ m.1 64 10 ≠ 0 ∧ m.2.2 ≤ μ.2.2 + 19700) → ex_q (dt_fg L ρ) rc (d + 14, (0, 1788, [some (eR 1), some (eR 64), some (eR 98), some (eI (i))], []), F, m)) : ex_q (dt_fg L ρ) rc (d + 14, (0, 1482, [some (eR 1), some (eR 64), some (eR 98), some (eI (i))], []), F, μ) := by
  refine w_s (np := 1483) (lv' := [some (eR 1), some (eR 64), some (eR 98), some (eI (i))]) (st' := [eR 64]) rfl rfl rfl ?_
  refine w_s (np := 1484) (lv' := [some (eR 1), some (eR 64), some (eR 98), some (eI (i))]) (st' := [eR 1, eR 64]) rfl rfl rfl ?_
  refine w_s (np := 1485) (lv' := [some (eR 1), some (eR 64), some (eR 98), some (eI (i))]) (st' := [eI (i), eR 1, eR 64]) rfl rfl rfl ?_
  refine w_s (np := 1486) (lv' := [some (eR 1), some (eR 64), some (eR 98), some (eI (i))]) (st' := [eI (1), eI (i), eR 1, eR 64]) rfl rfl rfl ?_
  have w1 : ev_w (i + 1) = (i + 1) := ev_w_in (by omega) (by omega)
  refine w_s (np := 1487) (lv' := [some (eR 1), some (eR 64), some (eR 98), some (eI (i))]) (st' := [eI (i + 1), eR 1, eR 64]) rfl (congrArg (fun q : Int => (some ([some (eR 1), some (eR 64), some (eR 98), some (eI (i))], eI q :: [eR 1, eR 64]) : Option (List (Option eV) × List eV))) w1) rfl ?_
  refine w_al (np := 1488) (v := ρ (i + 1).toNat) rfl rfl (lw_sc hL (by omega) (by omega)) ?_
  refine w_s (np := 1489) (lv' := [some (eR 1), some (eR 64), some (eR 98), some (eI (i))]) (st' := [eR 1, eI (ρ (i + 1).toNat), eR 64]) rfl rfl rfl ?_
  refine w_s (np := 1490) (lv' := [some (eR 1), some (eR 64), some (eR 98), some (eI (i))]) (st' := [eI (i), eR 1, eI (ρ (i + 1).toNat), eR 64]) rfl rfl rfl ?_
  refine w_s (np := 1491) (lv' := [some (eR 1), some (eR 64), some (eR 98), some (eI (i))]) (st' := [eI (2), eI (i), eR 1, eI (ρ (i + 1).toNat), eR 64]) rfl rfl rfl ?_
  have w2 : ev_w (i + 2) = (i + 2) := ev_w_in (by omega) (by omega)
  refine w_s (np := 1492) (lv' := [some (eR 1), some (eR 64), some (eR 98), some (eI (i))]) (st' := [eI (i + 2), eR 1, eI (ρ (i + 1).toNat), eR 64]) rfl (congrArg (fun q : Int => (some ([some (eR 1), some (eR 64), some (eR 98), some (eI (i))], eI q :: [eR 1, eI (ρ (i + 1).toNat), eR 64]) : Option (List (Option eV) × List eV))) w2) rfl ?_
  refine w_al (np := 1493) (v := ρ (i + 2).toNat) rfl rfl (lw_sc hL (by omega) (by omega)) ?_
  refine w_cw (np := 1496) (as := [eI (ρ (i + 1).toNat), eI (ρ (i + 2).toNat)]) (l2 := [some (eR 64), some (eI (ρ (i + 1).toNat)), some (eI (ρ (i + 2).toNat))]) (rest := []) rfl rfl rfl (Nat.ble_eq.mp rfl) rfl rfl rfl (hI.kd g64 (by decide) (n := 14) rfl) rfl ?_
  refine s_193 (a1 := ρ (i + 1).toNat) (a2 := ρ (i + 2).toNat) hI g64 (hρ _) (hρ _)  ?_
  intro m5 v3 I6 F7 b4
  have p8 : RP g m5 := RP.fr hP F7 rfl
  have b9 := HB.fr hB g64 F7 rfl
  have e10 : m5.1 64 10 = μ.1 64 10 := F7.k rfl g64 (by decide) rfl
  show ex_q (dt_fg L ρ) rc (d + 14, (0, 1496, [some (eR 1), some (eR 64), some (eR 98), some (eI (i))], [eI v3]), F, m5)
  refine w_s (np := 1497) (lv' := [some (eR 1), some (eR 64), some (eR 98), some (eI (i))]) (st' := []) rfl rfl rfl ?_
  refine w_s (np := 1498) (lv' := [some (eR 1), some (eR 64), some (eR 98), some (eI (i))]) (st' := [eR 98]) rfl rfl rfl ?_
  refine w_s (np := 1499) (lv' := [some (eR 1), some (eR 64), some (eR 98), some (eI (i))]) (st' := [eR 1, eR 98]) rfl rfl rfl ?_
  refine w_s (np := 1500) (lv' := [some (eR 1), some (eR 64), some (eR 98), some (eI (i))]) (st' := [eI (i), eR 1, eR 98]) rfl rfl rfl ?_
  refine w_s (np := 1501) (lv' := [some (eR 1), some (eR 64), some (eR 98), some (eI (i))]) (st' := [eI (1), eI (i), eR 1, eR 98]) rfl rfl rfl ?_
  have w11 : ev_w (i + 1) = (i + 1) := ev_w_in (by omega) (by omega)
  refine w_s (np := 1502) (lv' := [some (eR 1), some (eR 64), some (eR 98), some (eI (i))]) (st' := [eI (i + 1), eR 1, eR 98]) rfl (congrArg (fun q : Int => (some ([some (eR 1), some (eR 64), some (eR 98), some (eI (i))], eI q :: [eR 1, eR 98]) : Option (List (Option eV) × List eV))) w11) rfl ?_
  refine w_al (np := 1503) (v := ρ (i + 1).toNat) rfl rfl (lw_sc hL (by omega) (by omega)) ?_
  refine w_s (np := 1504) (lv' := [some (eR 1), some (eR 64), some (eR 98), some (eI (i))]) (st' := [eR 1, eI (ρ (i + 1).toNat), eR 98]) rfl rfl rfl ?_
  refine w_s (np := 1505) (lv' := [some (eR 1), some (eR 64), some (eR 98), some (eI (i))]) (st' := [eI (i), eR 1, eI (ρ (i + 1).toNat), eR 98]) rfl rfl rfl ?_
  refine w_s (np := 1506) (lv' := [some (eR 1), some (eR 64), some (eR 98), some (eI (i))]) (st' := [eI (2), eI (i), eR 1, eI (ρ (i + 1).toNat), eR 98]) rfl rfl rfl ?_
  have w12 : ev_w (i + 2) = (i + 2) := ev_w_in (by omega) (by omega)
  refine w_s (np := 1507) (lv' := [some (eR 1), some (eR 64), some (eR 98), some (eI (i))]) (st' := [eI (i + 2), eR 1, eI (ρ (i + 1).toNat), eR 98]) rfl (congrArg (fun q : Int => (some ([some (eR 1), some (eR 64), some (eR 98), some (eI (i))], eI q :: [eR 1, eI (ρ (i + 1).toNat), eR 98]) : Option (List (Option eV) × List eV))) w12) rfl ?_
  refine w_al (np := 1508) (v := ρ (i + 2).toNat) rfl rfl (lw_sc hL (by omega) (by omega)) ?_
  refine w_cw (np := 1511) (as := [eI (ρ (i + 1).toNat), eI (ρ (i + 2).toNat)]) (l2 := [some (eR 98), some (eI (ρ (i + 1).toNat)), some (eI (ρ (i + 2).toNat)), none, none, none, none]) (rest := []) rfl rfl rfl (Nat.ble_eq.mp rfl) rfl rfl rfl (I6.kd g98 (by decide) (n := 69) rfl) rfl ?_
  refine s_328 (a1 := ρ (i + 1).toNat) (a2 := ρ (i + 2).toNat) I6 g98 (hρ _) (hρ _)  ?_
  intro m15 v13 I16 F17 b14
  have p18 : RP g m15 := RP.fr p8 F17 rfl
  have b19 := HB.fr b9 g64 F17 rfl
  have e20 : m15.1 64 10 = m5.1 64 10 := F17.k rfl g64 (by decide) rfl
  show ex_q (dt_fg L ρ) rc (d + 14, (0, 1511, [some (eR 1), some (eR 64), some (eR 98), some (eI (i))], [eI v13]), F, m15)
  refine w_s (np := 1512) (lv' := [some (eR 1), some (eR 64), some (eR 98), some (eI (i))]) (st' := []) rfl rfl rfl ?_
  refine w_go (t1 := 1788) rfl rfl ?_
  exact K g m15 (GP.r hI.1) I16 p18 b19 (by have h0z := F7.1; have h1z := F17.1; omega) (Or.inl ⟨(by have h0z := F7.2.1; have h1z := F17.2.1; omega), fun q => (by rw [e20, e10]; exact q)⟩)
theorem o_39 {L : Nat} {ρ : Nat → Int} {rc : eQ} {d : Nat} {F : List eFr} {μ : eM} {g : Nat → Nat} {i : Int} (hL : L ≤ 4096) (hρ : ∀ j, -2147483648 ≤ ρ j ∧ ρ j ≤ 2147483647) (hi : 0 ≤ i ∧ i + 8 ≤ (L : Int)) (hI : SI g μ) (g64 : g 64 = 1) (g98 : g 98 = 52) (hP : RP g μ) (hB : HB g μ 64) (K : ∀ (g2 : Nat → Nat) (m : eM), GP g g2 → SI g2 m → RP g2 m → HB g2 m 64 → m.2.1.length ≤ μ.2.1.length + 250 → (m.2.2 ≤ μ.2.2 + 10281 ∧ (μ.1 64 10 ≠ 0 → m.1 64 10 ≠ 0) ∨ μ.1 64 10 = 0 ∧ m.1 64 10 ≠ 0 ∧ m.2.2 ≤ μ.2.2 + 19700) → ex_q (dt_fg L ρ) rc (d + 14, (0, 1788, [some (eR 1), some (eR 64), some (eR 98), some (eI (i))], []), F, m)) : ex_q (dt_fg L ρ) rc (d + 14, (0, 1515, [some (eR 1), some (eR 64), some (eR 98), some (eI (i))], []), F, μ) := by
  refine w_s (np := 1516) (lv' := [some (eR 1), some (eR 64), some (eR 98), some (eI (i))]) (st' := [eR 64]) rfl rfl rfl ?_
  refine w_s (np := 1517) (lv' := [some (eR 1), some (eR 64), some (eR 98), some (eI (i))]) (st' := [eR 1, eR 64]) rfl rfl rfl ?_
  refine w_s (np := 1518) (lv' := [some (eR 1), some (eR 64), some (eR 98), some (eI (i))]) (st' := [eI (i), eR 1, eR 64]) rfl rfl rfl ?_
  refine w_s (np := 1519) (lv' := [some (eR 1), some (eR 64), some (eR 98), some (eI (i))]) (st' := [eI (1), eI (i), eR 1, eR 64]) rfl rfl rfl ?_
  have w1 : ev_w (i + 1) = (i + 1) := ev_w_in (by omega) (by omega)
  refine w_s (np := 1520) (lv' := [some (eR 1), some (eR 64), some (eR 98), some (eI (i))]) (st' := [eI (i + 1), eR 1, eR 64]) rfl (congrArg (fun q : Int => (some ([some (eR 1), some (eR 64), some (eR 98), some (eI (i))], eI q :: [eR 1, eR 64]) : Option (List (Option eV) × List eV))) w1) rfl ?_
  refine w_al (np := 1521) (v := ρ (i + 1).toNat) rfl rfl (lw_sc hL (by omega) (by omega)) ?_
  refine w_cw (np := 1524) (as := [eI (ρ (i + 1).toNat)]) (l2 := [some (eR 64), some (eI (ρ (i + 1).toNat))]) (rest := []) rfl rfl rfl (Nat.ble_eq.mp rfl) rfl rfl rfl (hI.kd g64 (by decide) (n := 14) rfl) rfl ?_
  refine s_194 (a1 := ρ (i + 1).toNat) hI g64 (hρ _)  ?_
  intro m4 v2 I5 F6 b3
  have p7 : RP g m4 := RP.fr hP F6 rfl
  have b8 := HB.fr hB g64 F6 rfl
  have e9 : m4.1 64 10 = μ.1 64 10 := F6.k rfl g64 (by decide) rfl
  show ex_q (dt_fg L ρ) rc (d + 14, (0, 1524, [some (eR 1), some (eR 64), some (eR 98), some (eI (i))], [eI v2]), F, m4)
  refine w_s (np := 1525) (lv' := [some (eR 1), some (eR 64), some (eR 98), some (eI (i))]) (st' := []) rfl rfl rfl ?_
  refine w_s (np := 1526) (lv' := [some (eR 1), some (eR 64), some (eR 98), some (eI (i))]) (st' := [eR 98]) rfl rfl rfl ?_
  refine w_s (np := 1527) (lv' := [some (eR 1), some (eR 64), some (eR 98), some (eI (i))]) (st' := [eR 1, eR 98]) rfl rfl rfl ?_
  refine w_s (np := 1528) (lv' := [some (eR 1), some (eR 64), some (eR 98), some (eI (i))]) (st' := [eI (i), eR 1, eR 98]) rfl rfl rfl ?_
  refine w_s (np := 1529) (lv' := [some (eR 1), some (eR 64), some (eR 98), some (eI (i))]) (st' := [eI (1), eI (i), eR 1, eR 98]) rfl rfl rfl ?_
  have w10 : ev_w (i + 1) = (i + 1) := ev_w_in (by omega) (by omega)
  refine w_s (np := 1530) (lv' := [some (eR 1), some (eR 64), some (eR 98), some (eI (i))]) (st' := [eI (i + 1), eR 1, eR 98]) rfl (congrArg (fun q : Int => (some ([some (eR 1), some (eR 64), some (eR 98), some (eI (i))], eI q :: [eR 1, eR 98]) : Option (List (Option eV) × List eV))) w10) rfl ?_
  refine w_al (np := 1531) (v := ρ (i + 1).toNat) rfl rfl (lw_sc hL (by omega) (by omega)) ?_
  refine w_cw (np := 1534) (as := [eI (ρ (i + 1).toNat)]) (l2 := [some (eR 98), some (eI (ρ (i + 1).toNat))]) (rest := []) rfl rfl rfl (Nat.ble_eq.mp rfl) rfl rfl rfl (I5.kd g98 (by decide) (n := 69) rfl) rfl ?_
  refine s_331 (a1 := ρ (i + 1).toNat) I5 g98 (hρ _)  ?_
  intro m13 v11 I14 F15 b12
  have p16 : RP g m13 := RP.fr p7 F15 rfl
  have b17 := HB.fr b8 g64 F15 rfl
  have e18 : m13.1 64 10 = m4.1 64 10 := F15.k rfl g64 (by decide) rfl
  show ex_q (dt_fg L ρ) rc (d + 14, (0, 1534, [some (eR 1), some (eR 64), some (eR 98), some (eI (i))], [eI v11]), F, m13)
  refine w_s (np := 1535) (lv' := [some (eR 1), some (eR 64), some (eR 98), some (eI (i))]) (st' := []) rfl rfl rfl ?_
  refine w_go (t1 := 1788) rfl rfl ?_
  exact K g m13 (GP.r hI.1) I14 p16 b17 (by have h0z := F6.1; have h1z := F15.1; omega) (Or.inl ⟨(by have h0z := F6.2.1; have h1z := F15.2.1; omega), fun q => (by rw [e18, e9]; exact q)⟩)
theorem o_40 {L : Nat} {ρ : Nat → Int} {rc : eQ} {d : Nat} {F : List eFr} {μ : eM} {g : Nat → Nat} {i : Int} (hL : L ≤ 4096) (hρ : ∀ j, -2147483648 ≤ ρ j ∧ ρ j ≤ 2147483647) (hi : 0 ≤ i ∧ i + 8 ≤ (L : Int)) (hI : SI g μ) (g64 : g 64 = 1) (g98 : g 98 = 52) (hP : RP g μ) (hB : HB g μ 64) (K : ∀ (g2 : Nat → Nat) (m : eM), GP g g2 → SI g2 m → RP g2 m → HB g2 m 64 → m.2.1.length ≤ μ.2.1.length + 250 → (m.2.2 ≤ μ.2.2 + 10281 ∧ (μ.1 64 10 ≠ 0 → m.1 64 10 ≠ 0) ∨ μ.1 64 10 = 0 ∧ m.1 64 10 ≠ 0 ∧ m.2.2 ≤ μ.2.2 + 19700) → ex_q (dt_fg L ρ) rc (d + 14, (0, 1788, [some (eR 1), some (eR 64), some (eR 98), some (eI (i))], []), F, m)) : ex_q (dt_fg L ρ) rc (d + 14, (0, 1538, [some (eR 1), some (eR 64), some (eR 98), some (eI (i))], []), F, μ) := by
  refine w_s (np := 1539) (lv' := [some (eR 1), some (eR 64), some (eR 98), some (eI (i))]) (st' := [eR 64]) rfl rfl rfl ?_
  refine w_s (np := 1540) (lv' := [some (eR 1), some (eR 64), some (eR 98), some (eI (i))]) (st' := [eR 1, eR 64]) rfl rfl rfl ?_
  refine w_s (np := 1541) (lv' := [some (eR 1), some (eR 64), some (eR 98), some (eI (i))]) (st' := [eI (i), eR 1, eR 64]) rfl rfl rfl ?_
  refine w_s (np := 1542) (lv' := [some (eR 1), some (eR 64), some (eR 98), some (eI (i))]) (st' := [eI (1), eI (i), eR 1, eR 64]) rfl rfl rfl ?_
  have w1 : ev_w (i + 1) = (i + 1) := ev_w_in (by omega) (by omega)
  refine w_s (np := 1543) (lv' := [some (eR 1), some (eR 64), some (eR 98), some (eI (i))]) (st' := [eI (i + 1), eR 1, eR 64]) rfl (congrArg (fun q : Int => (some ([some (eR 1), some (eR 64), some (eR 98), some (eI (i))], eI q :: [eR 1, eR 64]) : Option (List (Option eV) × List eV))) w1) rfl ?_
  refine w_al (np := 1544) (v := ρ (i + 1).toNat) rfl rfl (lw_sc hL (by omega) (by omega)) ?_
  refine w_cw (np := 1547) (as := [eI (ρ (i + 1).toNat)]) (l2 := [some (eR 64), some (eI (ρ (i + 1).toNat))]) (rest := []) rfl rfl rfl (Nat.ble_eq.mp rfl) rfl rfl rfl (hI.kd g64 (by decide) (n := 14) rfl) rfl ?_
  refine s_195 (a1 := ρ (i + 1).toNat) hI g64 (hρ _)  ?_
  intro m4 v2 I5 F6 b3
  have p7 : RP g m4 := RP.fr hP F6 rfl
  have b8 := HB.fr hB g64 F6 rfl
  have e9 : m4.1 64 10 = μ.1 64 10 := F6.k rfl g64 (by decide) rfl
  show ex_q (dt_fg L ρ) rc (d + 14, (0, 1547, [some (eR 1), some (eR 64), some (eR 98), some (eI (i))], [eI v2]), F, m4)
  refine w_s (np := 1548) (lv' := [some (eR 1), some (eR 64), some (eR 98), some (eI (i))]) (st' := []) rfl rfl rfl ?_
  refine w_s (np := 1549) (lv' := [some (eR 1), some (eR 64), some (eR 98), some (eI (i))]) (st' := [eR 98]) rfl rfl rfl ?_
  refine w_s (np := 1550) (lv' := [some (eR 1), some (eR 64), some (eR 98), some (eI (i))]) (st' := [eR 1, eR 98]) rfl rfl rfl ?_
  refine w_s (np := 1551) (lv' := [some (eR 1), some (eR 64), some (eR 98), some (eI (i))]) (st' := [eI (i), eR 1, eR 98]) rfl rfl rfl ?_
  refine w_s (np := 1552) (lv' := [some (eR 1), some (eR 64), some (eR 98), some (eI (i))]) (st' := [eI (1), eI (i), eR 1, eR 98]) rfl rfl rfl ?_
  have w10 : ev_w (i + 1) = (i + 1) := ev_w_in (by omega) (by omega)
  refine w_s (np := 1553) (lv' := [some (eR 1), some (eR 64), some (eR 98), some (eI (i))]) (st' := [eI (i + 1), eR 1, eR 98]) rfl (congrArg (fun q : Int => (some ([some (eR 1), some (eR 64), some (eR 98), some (eI (i))], eI q :: [eR 1, eR 98]) : Option (List (Option eV) × List eV))) w10) rfl ?_
  refine w_al (np := 1554) (v := ρ (i + 1).toNat) rfl rfl (lw_sc hL (by omega) (by omega)) ?_
  refine w_cw (np := 1557) (as := [eI (ρ (i + 1).toNat)]) (l2 := [some (eR 98), some (eI (ρ (i + 1).toNat)), none, none]) (rest := []) rfl rfl rfl (Nat.ble_eq.mp rfl) rfl rfl rfl (I5.kd g98 (by decide) (n := 69) rfl) rfl ?_
  refine s_334 (a1 := ρ (i + 1).toNat) I5 g98 (hρ _)  ?_
  intro m13 v11 I14 F15 b12
  have p16 : RP g m13 := RP.fr p7 F15 rfl
  have b17 := HB.fr b8 g64 F15 rfl
  have e18 : m13.1 64 10 = m4.1 64 10 := F15.k rfl g64 (by decide) rfl
  show ex_q (dt_fg L ρ) rc (d + 14, (0, 1557, [some (eR 1), some (eR 64), some (eR 98), some (eI (i))], [eI v11]), F, m13)
  refine w_s (np := 1558) (lv' := [some (eR 1), some (eR 64), some (eR 98), some (eI (i))]) (st' := []) rfl rfl rfl ?_
  refine w_go (t1 := 1788) rfl rfl ?_
  exact K g m13 (GP.r hI.1) I14 p16 b17 (by have h0z := F6.1; have h1z := F15.1; omega) (Or.inl ⟨(by have h0z := F6.2.1; have h1z := F15.2.1; omega), fun q => (by rw [e18, e9]; exact q)⟩)
theorem o_42 {L : Nat} {ρ : Nat → Int} {rc : eQ} {d : Nat} {F : List eFr} {μ : eM} {g : Nat → Nat} {i : Int} (hL : L ≤ 4096) (hρ : ∀ j, -2147483648 ≤ ρ j ∧ ρ j ≤ 2147483647) (hi : 0 ≤ i ∧ i + 8 ≤ (L : Int)) (hI : SI g μ) (g64 : g 64 = 1) (g98 : g 98 = 52) (hP : RP g μ) (hB : HB g μ 64) (K : ∀ (g2 : Nat → Nat) (m : eM), GP g g2 → SI g2 m → RP g2 m → HB g2 m 64 → m.2.1.length ≤ μ.2.1.length + 250 → (m.2.2 ≤ μ.2.2 + 10281 ∧ (μ.1 64 10 ≠ 0 → m.1 64 10 ≠ 0) ∨ μ.1 64 10 = 0 ∧ m.1 64 10 ≠ 0 ∧ m.2.2 ≤ μ.2.2 + 19700) → ex_q (dt_fg L ρ) rc (d + 14, (0, 1788, [some (eR 1), some (eR 64), some (eR 98), some (eI (i))], []), F, m)) : ex_q (dt_fg L ρ) rc (d + 14, (0, 1584, [some (eR 1), some (eR 64), some (eR 98), some (eI (i))], []), F, μ) := by
  refine w_s (np := 1585) (lv' := [some (eR 1), some (eR 64), some (eR 98), some (eI (i))]) (st' := [eR 64]) rfl rfl rfl ?_
  refine w_s (np := 1586) (lv' := [some (eR 1), some (eR 64), some (eR 98), some (eI (i))]) (st' := [eR 1, eR 64]) rfl rfl rfl ?_
  refine w_s (np := 1587) (lv' := [some (eR 1), some (eR 64), some (eR 98), some (eI (i))]) (st' := [eI (i), eR 1, eR 64]) rfl rfl rfl ?_
  refine w_s (np := 1588) (lv' := [some (eR 1), some (eR 64), some (eR 98), some (eI (i))]) (st' := [eI (1), eI (i), eR 1, eR 64]) rfl rfl rfl ?_
  have w1 : ev_w (i + 1) = (i + 1) := ev_w_in (by omega) (by omega)
  refine w_s (np := 1589) (lv' := [some (eR 1), some (eR 64), some (eR 98), some (eI (i))]) (st' := [eI (i + 1), eR 1, eR 64]) rfl (congrArg (fun q : Int => (some ([some (eR 1), some (eR 64), some (eR 98), some (eI (i))], eI q :: [eR 1, eR 64]) : Option (List (Option eV) × List eV))) w1) rfl ?_
  refine w_al (np := 1590) (v := ρ (i + 1).toNat) rfl rfl (lw_sc hL (by omega) (by omega)) ?_
  refine w_cw (np := 1593) (as := [eI (ρ (i + 1).toNat)]) (l2 := [some (eR 64), some (eI (ρ (i + 1).toNat))]) (rest := []) rfl rfl rfl (Nat.ble_eq.mp rfl) rfl rfl rfl (hI.kd g64 (by decide) (n := 14) rfl) rfl ?_
  refine s_197 (a1 := ρ (i + 1).toNat) hI g64 (hρ _)  ?_
  intro m4 v2 I5 F6 b3
  have p7 : RP g m4 := RP.fr hP F6 rfl
  have b8 := HB.fr hB g64 F6 rfl
  have e9 : m4.1 64 10 = μ.1 64 10 := F6.k rfl g64 (by decide) rfl
  show ex_q (dt_fg L ρ) rc (d + 14, (0, 1593, [some (eR 1), some (eR 64), some (eR 98), some (eI (i))], [eI v2]), F, m4)
  refine w_s (np := 1594) (lv' := [some (eR 1), some (eR 64), some (eR 98), some (eI (i))]) (st' := []) rfl rfl rfl ?_
  refine w_s (np := 1595) (lv' := [some (eR 1), some (eR 64), some (eR 98), some (eI (i))]) (st' := [eR 98]) rfl rfl rfl ?_
  refine w_s (np := 1596) (lv' := [some (eR 1), some (eR 64), some (eR 98), some (eI (i))]) (st' := [eR 1, eR 98]) rfl rfl rfl ?_
  refine w_s (np := 1597) (lv' := [some (eR 1), some (eR 64), some (eR 98), some (eI (i))]) (st' := [eI (i), eR 1, eR 98]) rfl rfl rfl ?_
  refine w_s (np := 1598) (lv' := [some (eR 1), some (eR 64), some (eR 98), some (eI (i))]) (st' := [eI (1), eI (i), eR 1, eR 98]) rfl rfl rfl ?_
  have w10 : ev_w (i + 1) = (i + 1) := ev_w_in (by omega) (by omega)
  refine w_s (np := 1599) (lv' := [some (eR 1), some (eR 64), some (eR 98), some (eI (i))]) (st' := [eI (i + 1), eR 1, eR 98]) rfl (congrArg (fun q : Int => (some ([some (eR 1), some (eR 64), some (eR 98), some (eI (i))], eI q :: [eR 1, eR 98]) : Option (List (Option eV) × List eV))) w10) rfl ?_
  refine w_al (np := 1600) (v := ρ (i + 1).toNat) rfl rfl (lw_sc hL (by omega) (by omega)) ?_
  refine w_cw (np := 1603) (as := [eI (ρ (i + 1).toNat)]) (l2 := [some (eR 98), some (eI (ρ (i + 1).toNat))]) (rest := []) rfl rfl rfl (Nat.ble_eq.mp rfl) rfl rfl rfl (I5.kd g98 (by decide) (n := 69) rfl) rfl ?_
  refine s_339 (a1 := ρ (i + 1).toNat) I5 g98 (hρ _)  ?_
  intro m13 v11 I14 F15 b12
  have p16 : RP g m13 := RP.fr p7 F15 rfl
  have b17 := HB.fr b8 g64 F15 rfl
  have e18 : m13.1 64 10 = m4.1 64 10 := F15.k rfl g64 (by decide) rfl
  show ex_q (dt_fg L ρ) rc (d + 14, (0, 1603, [some (eR 1), some (eR 64), some (eR 98), some (eI (i))], [eI v11]), F, m13)
  refine w_s (np := 1604) (lv' := [some (eR 1), some (eR 64), some (eR 98), some (eI (i))]) (st' := []) rfl rfl rfl ?_
  refine w_go (t1 := 1788) rfl rfl ?_
  exact K g m13 (GP.r hI.1) I14 p16 b17 (by have h0z := F6.1; have h1z := F15.1; omega) (Or.inl ⟨(by have h0z := F6.2.1; have h1z := F15.2.1; omega), fun q => (by rw [e18, e9]; exact q)⟩)
theorem o_43 {L : Nat} {ρ : Nat → Int} {rc : eQ} {d : Nat} {F : List eFr} {μ : eM} {g : Nat → Nat} {i : Int} (hL : L ≤ 4096) (hρ : ∀ j, -2147483648 ≤ ρ j ∧ ρ j ≤ 2147483647) (hi : 0 ≤ i ∧ i + 8 ≤ (L : Int)) (hI : SI g μ) (g64 : g 64 = 1) (g98 : g 98 = 52) (hP : RP g μ) (hB : HB g μ 64) (K : ∀ (g2 : Nat → Nat) (m : eM), GP g g2 → SI g2 m → RP g2 m → HB g2 m 64 → m.2.1.length ≤ μ.2.1.length + 250 → (m.2.2 ≤ μ.2.2 + 10281 ∧ (μ.1 64 10 ≠ 0 → m.1 64 10 ≠ 0) ∨ μ.1 64 10 = 0 ∧ m.1 64 10 ≠ 0 ∧ m.2.2 ≤ μ.2.2 + 19700) → ex_q (dt_fg L ρ) rc (d + 14, (0, 1788, [some (eR 1), some (eR 64), some (eR 98), some (eI (i))], []), F, m)) : ex_q (dt_fg L ρ) rc (d + 14, (0, 1607, [some (eR 1), some (eR 64), some (eR 98), some (eI (i))], []), F, μ) := by
  refine w_s (np := 1608) (lv' := [some (eR 1), some (eR 64), some (eR 98), some (eI (i))]) (st' := [eR 64]) rfl rfl rfl ?_
  refine w_cw (np := 1611) (as := []) (l2 := [some (eR 64), none, none]) (rest := []) rfl rfl rfl (Nat.ble_eq.mp rfl) rfl rfl rfl (hI.kd g64 (by decide) (n := 14) rfl) rfl ?_
  refine s_198 hI g64   ?_
  intro m3 v1 I4 F5 b2
  have p6 : RP g m3 := RP.fr hP F5 rfl
  have b7 := HB.fr hB g64 F5 rfl
  have e8 : m3.1 64 10 = μ.1 64 10 := F5.k rfl g64 (by decide) rfl
  show ex_q (dt_fg L ρ) rc (d + 14, (0, 1611, [some (eR 1), some (eR 64), some (eR 98), some (eI (i))], [eI v1]), F, m3)
  refine w_s (np := 1612) (lv' := [some (eR 1), some (eR 64), some (eR 98), some (eI (i))]) (st' := []) rfl rfl rfl ?_
  refine w_s (np := 1613) (lv' := [some (eR 1), some (eR 64), some (eR 98), some (eI (i))]) (st' := [eR 98]) rfl rfl rfl ?_
  refine w_cw (np := 1616) (as := []) (l2 := [some (eR 98), none, none]) (rest := []) rfl rfl rfl (Nat.ble_eq.mp rfl) rfl rfl rfl (I4.kd g98 (by decide) (n := 69) rfl) rfl ?_
  refine s_340n I4 g98   ?_
  intro m11 v9 I12 F13 b10
  have p14 : RP g m11 := RP.fr p6 F13 rfl
  have b15 := HB.fr b7 g64 F13 rfl
  have e16 : m11.1 64 10 = m3.1 64 10 := F13.k rfl g64 (by decide) rfl
  show ex_q (dt_fg L ρ) rc (d + 14, (0, 1616, [some (eR 1), some (eR 64), some (eR 98), some (eI (i))], [eI v9]), F, m11)
  refine w_s (np := 1617) (lv' := [some (eR 1), some (eR 64), some (eR 98), some (eI (i))]) (st' := []) rfl rfl rfl ?_
  refine w_go (t1 := 1788) rfl rfl ?_
  exact K g m11 (GP.r hI.1) I12 p14 b15 (by have h0z := F5.1; have h1z := F13.1; omega) (Or.inl ⟨(by have h0z := F5.2.1; have h1z := F13.2.1; omega), fun q => (by rw [e16, e8]; exact q)⟩)
theorem o_44 {L : Nat} {ρ : Nat → Int} {rc : eQ} {d : Nat} {F : List eFr} {μ : eM} {g : Nat → Nat} {i : Int} (hL : L ≤ 4096) (hρ : ∀ j, -2147483648 ≤ ρ j ∧ ρ j ≤ 2147483647) (hi : 0 ≤ i ∧ i + 8 ≤ (L : Int)) (hI : SI g μ) (g64 : g 64 = 1) (g98 : g 98 = 52) (hP : RP g μ) (hB : HB g μ 64) (K : ∀ (g2 : Nat → Nat) (m : eM), GP g g2 → SI g2 m → RP g2 m → HB g2 m 64 → m.2.1.length ≤ μ.2.1.length + 250 → (m.2.2 ≤ μ.2.2 + 10281 ∧ (μ.1 64 10 ≠ 0 → m.1 64 10 ≠ 0) ∨ μ.1 64 10 = 0 ∧ m.1 64 10 ≠ 0 ∧ m.2.2 ≤ μ.2.2 + 19700) → ex_q (dt_fg L ρ) rc (d + 14, (0, 1788, [some (eR 1), some (eR 64), some (eR 98), some (eI (i))], []), F, m)) : ex_q (dt_fg L ρ) rc (d + 14, (0, 1620, [some (eR 1), some (eR 64), some (eR 98), some (eI (i))], []), F, μ) := by
  refine w_s (np := 1621) (lv' := [some (eR 1), some (eR 64), some (eR 98), some (eI (i))]) (st' := [eR 64]) rfl rfl rfl ?_
  refine w_s (np := 1622) (lv' := [some (eR 1), some (eR 64), some (eR 98), some (eI (i))]) (st' := [eR 1, eR 64]) rfl rfl rfl ?_
  refine w_s (np := 1623) (lv' := [some (eR 1), some (eR 64), some (eR 98), some (eI (i))]) (st' := [eI (i), eR 1, eR 64]) rfl rfl rfl ?_
  refine w_s (np := 1624) (lv' := [some (eR 1), some (eR 64), some (eR 98), some (eI (i))]) (st' := [eI (1), eI (i), eR 1, eR 64]) rfl rfl rfl ?_
  have w1 : ev_w (i + 1) = (i + 1) := ev_w_in (by omega) (by omega)
  refine w_s (np := 1625) (lv' := [some (eR 1), some (eR 64), some (eR 98), some (eI (i))]) (st' := [eI (i + 1), eR 1, eR 64]) rfl (congrArg (fun q : Int => (some ([some (eR 1), some (eR 64), some (eR 98), some (eI (i))], eI q :: [eR 1, eR 64]) : Option (List (Option eV) × List eV))) w1) rfl ?_
  refine w_al (np := 1626) (v := ρ (i + 1).toNat) rfl rfl (lw_sc hL (by omega) (by omega)) ?_
  refine w_s (np := 1627) (lv' := [some (eR 1), some (eR 64), some (eR 98), some (eI (i))]) (st' := [eR 1, eI (ρ (i + 1).toNat), eR 64]) rfl rfl rfl ?_
  refine w_s (np := 1628) (lv' := [some (eR 1), some (eR 64), some (eR 98), some (eI (i))]) (st' := [eI (i), eR 1, eI (ρ (i + 1).toNat), eR 64]) rfl rfl rfl ?_
  refine w_s (np := 1629) (lv' := [some (eR 1), some (eR 64), some (eR 98), some (eI (i))]) (st' := [eI (2), eI (i), eR 1, eI (ρ (i + 1).toNat), eR 64]) rfl rfl rfl ?_
  have w2 : ev_w (i + 2) = (i + 2) := ev_w_in (by omega) (by omega)
  refine w_s (np := 1630) (lv' := [some (eR 1), some (eR 64), some (eR 98), some (eI (i))]) (st' := [eI (i + 2), eR 1, eI (ρ (i + 1).toNat), eR 64]) rfl (congrArg (fun q : Int => (some ([some (eR 1), some (eR 64), some (eR 98), some (eI (i))], eI q :: [eR 1, eI (ρ (i + 1).toNat), eR 64]) : Option (List (Option eV) × List eV))) w2) rfl ?_
  refine w_al (np := 1631) (v := ρ (i + 2).toNat) rfl rfl (lw_sc hL (by omega) (by omega)) ?_
  refine w_s (np := 1632) (lv' := [some (eR 1), some (eR 64), some (eR 98), some (eI (i))]) (st' := [eR 1, eI (ρ (i + 2).toNat), eI (ρ (i + 1).toNat), eR 64]) rfl rfl rfl ?_
  refine w_s (np := 1633) (lv' := [some (eR 1), some (eR 64), some (eR 98), some (eI (i))]) (st' := [eI (i), eR 1, eI (ρ (i + 2).toNat), eI (ρ (i + 1).toNat), eR 64]) rfl rfl rfl ?_
  refine w_s (np := 1634) (lv' := [some (eR 1), some (eR 64), some (eR 98), some (eI (i))]) (st' := [eI (3), eI (i), eR 1, eI (ρ (i + 2).toNat), eI (ρ (i + 1).toNat), eR 64]) rfl rfl rfl ?_
  have w3 : ev_w (i + 3) = (i + 3) := ev_w_in (by omega) (by omega)
  refine w_s (np := 1635) (lv' := [some (eR 1), some (eR 64), some (eR 98), some (eI (i))]) (st' := [eI (i + 3), eR 1, eI (ρ (i + 2).toNat), eI (ρ (i + 1).toNat), eR 64]) rfl (congrArg (fun q : Int => (some ([some (eR 1), some (eR 64), some (eR 98), some (eI (i))], eI q :: [eR 1, eI (ρ (i + 2).toNat), eI (ρ (i + 1).toNat), eR 64]) : Option (List (Option eV) × List eV))) w3) rfl ?_
  refine w_al (np := 1636) (v := ρ (i + 3).toNat) rfl rfl (lw_sc hL (by omega) (by omega)) ?_
  refine w_s (np := 1637) (lv' := [some (eR 1), some (eR 64), some (eR 98), some (eI (i))]) (st' := [eR 1, eI (ρ (i + 3).toNat), eI (ρ (i + 2).toNat), eI (ρ (i + 1).toNat), eR 64]) rfl rfl rfl ?_
  refine w_s (np := 1638) (lv' := [some (eR 1), some (eR 64), some (eR 98), some (eI (i))]) (st' := [eI (i), eR 1, eI (ρ (i + 3).toNat), eI (ρ (i + 2).toNat), eI (ρ (i + 1).toNat), eR 64]) rfl rfl rfl ?_
  refine w_s (np := 1639) (lv' := [some (eR 1), some (eR 64), some (eR 98), some (eI (i))]) (st' := [eI (4), eI (i), eR 1, eI (ρ (i + 3).toNat), eI (ρ (i + 2).toNat), eI (ρ (i + 1).toNat), eR 64]) rfl rfl rfl ?_
  have w4 : ev_w (i + 4) = (i + 4) := ev_w_in (by omega) (by omega)
  refine w_s (np := 1640) (lv' := [some (eR 1), some (eR 64), some (eR 98), some (eI (i))]) (st' := [eI (i + 4), eR 1, eI (ρ (i + 3).toNat), eI (ρ (i + 2).toNat), eI (ρ (i + 1).toNat), eR 64]) rfl (congrArg (fun q : Int => (some ([some (eR 1), some (eR 64), some (eR 98), some (eI (i))], eI q :: [eR 1, eI (ρ (i + 3).toNat), eI (ρ (i + 2).toNat), eI (ρ (i + 1).toNat), eR 64]) : Option (List (Option eV) × List eV))) w4) rfl ?_
  refine w_al (np := 1641) (v := ρ (i + 4).toNat) rfl rfl (lw_sc hL (by omega) (by omega)) ?_
  refine w_s (np := 1642) (lv' := [some (eR 1), some (eR 64), some (eR 98), some (eI (i))]) (st' := [eR 1, eI (ρ (i + 4).toNat), eI (ρ (i + 3).toNat), eI (ρ (i + 2).toNat), eI (ρ (i + 1).toNat), eR 64]) rfl rfl rfl ?_
  refine w_s (np := 1643) (lv' := [some (eR 1), some (eR 64), some (eR 98), some (eI (i))]) (st' := [eI (i), eR 1, eI (ρ (i + 4).toNat), eI (ρ (i + 3).toNat), eI (ρ (i + 2).toNat), eI (ρ (i + 1).toNat), eR 64]) rfl rfl rfl ?_
  refine w_s (np := 1644) (lv' := [some (eR 1), some (eR 64), some (eR 98), some (eI (i))]) (st' := [eI (5), eI (i), eR 1, eI (ρ (i + 4).toNat), eI (ρ (i + 3).toNat), eI (ρ (i + 2).toNat), eI (ρ (i + 1).toNat), eR 64]) rfl rfl rfl ?_
  have w5 : ev_w (i + 5) = (i + 5) := ev_w_in (by omega) (by omega)
  refine w_s (np := 1645) (lv' := [some (eR 1), some (eR 64), some (eR 98), some (eI (i))]) (st' := [eI (i + 5), eR 1, eI (ρ (i + 4).toNat), eI (ρ (i + 3).toNat), eI (ρ (i + 2).toNat), eI (ρ (i + 1).toNat), eR 64]) rfl (congrArg (fun q : Int => (some ([some (eR 1), some (eR 64), some (eR 98), some (eI (i))], eI q :: [eR 1, eI (ρ (i + 4).toNat), eI (ρ (i + 3).toNat), eI (ρ (i + 2).toNat), eI (ρ (i + 1).toNat), eR 64]) : Option (List (Option eV) × List eV))) w5) rfl ?_
  refine w_al (np := 1646) (v := ρ (i + 5).toNat) rfl rfl (lw_sc hL (by omega) (by omega)) ?_
  refine w_cw (np := 1649) (as := [eI (ρ (i + 1).toNat), eI (ρ (i + 2).toNat), eI (ρ (i + 3).toNat), eI (ρ (i + 4).toNat), eI (ρ (i + 5).toNat)]) (l2 := [some (eR 64), some (eI (ρ (i + 1).toNat)), some (eI (ρ (i + 2).toNat)), some (eI (ρ (i + 3).toNat)), some (eI (ρ (i + 4).toNat)), some (eI (ρ (i + 5).toNat))]) (rest := []) rfl rfl rfl (Nat.ble_eq.mp rfl) rfl rfl rfl (hI.kd g64 (by decide) (n := 14) rfl) rfl ?_
  refine s_199 (a1 := ρ (i + 1).toNat) (a2 := ρ (i + 2).toNat) (a3 := ρ (i + 3).toNat) (a4 := ρ (i + 4).toNat) (a5 := ρ (i + 5).toNat) hI g64 (hρ _) (hρ _) (hρ _) (hρ _) (hρ _)  ?_
  intro m8 v6 I9 F10 b7
  have p11 : RP g m8 := RP.fr hP F10 rfl
  have b12 := HB.fr hB g64 F10 rfl
  have e13 : m8.1 64 10 = μ.1 64 10 := F10.k rfl g64 (by decide) rfl
  show ex_q (dt_fg L ρ) rc (d + 14, (0, 1649, [some (eR 1), some (eR 64), some (eR 98), some (eI (i))], [eI v6]), F, m8)
  refine w_s (np := 1650) (lv' := [some (eR 1), some (eR 64), some (eR 98), some (eI (i))]) (st' := []) rfl rfl rfl ?_
  refine w_s (np := 1651) (lv' := [some (eR 1), some (eR 64), some (eR 98), some (eI (i))]) (st' := [eR 98]) rfl rfl rfl ?_
  refine w_s (np := 1652) (lv' := [some (eR 1), some (eR 64), some (eR 98), some (eI (i))]) (st' := [eR 1, eR 98]) rfl rfl rfl ?_
  refine w_s (np := 1653) (lv' := [some (eR 1), some (eR 64), some (eR 98), some (eI (i))]) (st' := [eI (i), eR 1, eR 98]) rfl rfl rfl ?_
  refine w_s (np := 1654) (lv' := [some (eR 1), some (eR 64), some (eR 98), some (eI (i))]) (st' := [eI (1), eI (i), eR 1, eR 98]) rfl rfl rfl ?_
  have w14 : ev_w (i + 1) = (i + 1) := ev_w_in (by omega) (by omega)
  refine w_s (np := 1655) (lv' := [some (eR 1), some (eR 64), some (eR 98), some (eI (i))]) (st' := [eI (i + 1), eR 1, eR 98]) rfl (congrArg (fun q : Int => (some ([some (eR 1), some (eR 64), some (eR 98), some (eI (i))], eI q :: [eR 1, eR 98]) : Option (List (Option eV) × List eV))) w14) rfl ?_
  refine w_al (np := 1656) (v := ρ (i + 1).toNat) rfl rfl (lw_sc hL (by omega) (by omega)) ?_
  refine w_s (np := 1657) (lv' := [some (eR 1), some (eR 64), some (eR 98), some (eI (i))]) (st' := [eR 1, eI (ρ (i + 1).toNat), eR 98]) rfl rfl rfl ?_
  refine w_s (np := 1658) (lv' := [some (eR 1), some (eR 64), some (eR 98), some (eI (i))]) (st' := [eI (i), eR 1, eI (ρ (i + 1).toNat), eR 98]) rfl rfl rfl ?_
  refine w_s (np := 1659) (lv' := [some (eR 1), some (eR 64), some (eR 98), some (eI (i))]) (st' := [eI (2), eI (i), eR 1, eI (ρ (i + 1).toNat), eR 98]) rfl rfl rfl ?_
  have w15 : ev_w (i + 2) = (i + 2) := ev_w_in (by omega) (by omega)
  refine w_s (np := 1660) (lv' := [some (eR 1), some (eR 64), some (eR 98), some (eI (i))]) (st' := [eI (i + 2), eR 1, eI (ρ (i + 1).toNat), eR 98]) rfl (congrArg (fun q : Int => (some ([some (eR 1), some (eR 64), some (eR 98), some (eI (i))], eI q :: [eR 1, eI (ρ (i + 1).toNat), eR 98]) : Option (List (Option eV) × List eV))) w15) rfl ?_
  refine w_al (np := 1661) (v := ρ (i + 2).toNat) rfl rfl (lw_sc hL (by omega) (by omega)) ?_
  refine w_s (np := 1662) (lv' := [some (eR 1), some (eR 64), some (eR 98), some (eI (i))]) (st' := [eR 1, eI (ρ (i + 2).toNat), eI (ρ (i + 1).toNat), eR 98]) rfl rfl rfl ?_
  refine w_s (np := 1663) (lv' := [some (eR 1), some (eR 64), some (eR 98), some (eI (i))]) (st' := [eI (i), eR 1, eI (ρ (i + 2).toNat), eI (ρ (i + 1).toNat), eR 98]) rfl rfl rfl ?_
  refine w_s (np := 1664) (lv' := [some (eR 1), some (eR 64), some (eR 98), some (eI (i))]) (st' := [eI (3), eI (i), eR 1, eI (ρ (i + 2).toNat), eI (ρ (i + 1).toNat), eR 98]) rfl rfl rfl ?_
  have w16 : ev_w (i + 3) = (i + 3) := ev_w_in (by omega) (by omega)
  refine w_s (np := 1665) (lv' := [some (eR 1), some (eR 64), some (eR 98), some (eI (i))]) (st' := [eI (i + 3), eR 1, eI (ρ (i + 2).toNat), eI (ρ (i + 1).toNat), eR 98]) rfl (congrArg (fun q : Int => (some ([some (eR 1), some (eR 64), some (eR 98), some (eI (i))], eI q :: [eR 1, eI (ρ (i + 2).toNat), eI (ρ (i + 1).toNat), eR 98]) : Option (List (Option eV) × List eV))) w16) rfl ?_
  refine w_al (np := 1666) (v := ρ (i + 3).toNat) rfl rfl (lw_sc hL (by omega) (by omega)) ?_
  refine w_s (np := 1667) (lv' := [some (eR 1), some (eR 64), some (eR 98), some (eI (i))]) (st' := [eR 1, eI (ρ (i + 3).toNat), eI (ρ (i + 2).toNat), eI (ρ (i + 1).toNat), eR 98]) rfl rfl rfl ?_
  refine w_s (np := 1668) (lv' := [some (eR 1), some (eR 64), some (eR 98), some (eI (i))]) (st' := [eI (i), eR 1, eI (ρ (i + 3).toNat), eI (ρ (i + 2).toNat), eI (ρ (i + 1).toNat), eR 98]) rfl rfl rfl ?_
  refine w_s (np := 1669) (lv' := [some (eR 1), some (eR 64), some (eR 98), some (eI (i))]) (st' := [eI (4), eI (i), eR 1, eI (ρ (i + 3).toNat), eI (ρ (i + 2).toNat), eI (ρ (i + 1).toNat), eR 98]) rfl rfl rfl ?_
  have w17 : ev_w (i + 4) = (i + 4) := ev_w_in (by omega) (by omega)
  refine w_s (np := 1670) (lv' := [some (eR 1), some (eR 64), some (eR 98), some (eI (i))]) (st' := [eI (i + 4), eR 1, eI (ρ (i + 3).toNat), eI (ρ (i + 2).toNat), eI (ρ (i + 1).toNat), eR 98]) rfl (congrArg (fun q : Int => (some ([some (eR 1), some (eR 64), some (eR 98), some (eI (i))], eI q :: [eR 1, eI (ρ (i + 3).toNat), eI (ρ (i + 2).toNat), eI (ρ (i + 1).toNat), eR 98]) : Option (List (Option eV) × List eV))) w17) rfl ?_
  refine w_al (np := 1671) (v := ρ (i + 4).toNat) rfl rfl (lw_sc hL (by omega) (by omega)) ?_
  refine w_s (np := 1672) (lv' := [some (eR 1), some (eR 64), some (eR 98), some (eI (i))]) (st' := [eR 1, eI (ρ (i + 4).toNat), eI (ρ (i + 3).toNat), eI (ρ (i + 2).toNat), eI (ρ (i + 1).toNat), eR 98]) rfl rfl rfl ?_
  refine w_s (np := 1673) (lv' := [some (eR 1), some (eR 64), some (eR 98), some (eI (i))]) (st' := [eI (i), eR 1, eI (ρ (i + 4).toNat), eI (ρ (i + 3).toNat), eI (ρ (i + 2).toNat), eI (ρ (i + 1).toNat), eR 98]) rfl rfl rfl ?_
  refine w_s (np := 1674) (lv' := [some (eR 1), some (eR 64), some (eR 98), some (eI (i))]) (st' := [eI (5), eI (i), eR 1, eI (ρ (i + 4).toNat), eI (ρ (i + 3).toNat), eI (ρ (i + 2).toNat), eI (ρ (i + 1).toNat), eR 98]) rfl rfl rfl ?_
  have w18 : ev_w (i + 5) = (i + 5) := ev_w_in (by omega) (by omega)
  refine w_s (np := 1675) (lv' := [some (eR 1), some (eR 64), some (eR 98), some (eI (i))]) (st' := [eI (i + 5), eR 1, eI (ρ (i + 4).toNat), eI (ρ (i + 3).toNat), eI (ρ (i + 2).toNat), eI (ρ (i + 1).toNat), eR 98]) rfl (congrArg (fun q : Int => (some ([some (eR 1), some (eR 64), some (eR 98), some (eI (i))], eI q :: [eR 1, eI (ρ (i + 4).toNat), eI (ρ (i + 3).toNat), eI (ρ (i + 2).toNat), eI (ρ (i + 1).toNat), eR 98]) : Option (List (Option eV) × List eV))) w18) rfl ?_
  refine w_al (np := 1676) (v := ρ (i + 5).toNat) rfl rfl (lw_sc hL (by omega) (by omega)) ?_
  refine w_cw (np := 1679) (as := [eI (ρ (i + 1).toNat), eI (ρ (i + 2).toNat), eI (ρ (i + 3).toNat), eI (ρ (i + 4).toNat), eI (ρ (i + 5).toNat)]) (l2 := [some (eR 98), some (eI (ρ (i + 1).toNat)), some (eI (ρ (i + 2).toNat)), some (eI (ρ (i + 3).toNat)), some (eI (ρ (i + 4).toNat)), some (eI (ρ (i + 5).toNat))]) (rest := []) rfl rfl rfl (Nat.ble_eq.mp rfl) rfl rfl rfl (I9.kd g98 (by decide) (n := 69) rfl) rfl ?_
  refine s_343 (a1 := ρ (i + 1).toNat) (a2 := ρ (i + 2).toNat) (a3 := ρ (i + 3).toNat) (a4 := ρ (i + 4).toNat) (a5 := ρ (i + 5).toNat) I9 g98 (hρ _) (hρ _) (hρ _) (hρ _) (hρ _)  ?_
  intro m21 v19 I22 F23 b20
  have p24 : RP g m21 := RP.fr p11 F23 rfl
  have b25 := HB.fr b12 g64 F23 rfl
  have e26 : m21.1 64 10 = m8.1 64 10 := F23.k rfl g64 (by decide) rfl
  show ex_q (dt_fg L ρ) rc (d + 14, (0, 1679, [some (eR 1), some (eR 64), some (eR 98), some (eI (i))], [eI v19]), F, m21)
  refine w_s (np := 1680) (lv' := [some (eR 1), some (eR 64), some (eR 98), some (eI (i))]) (st' := []) rfl rfl rfl ?_
  refine w_go (t1 := 1788) rfl rfl ?_
  exact K g m21 (GP.r hI.1) I22 p24 b25 (by have h0z := F10.1; have h1z := F23.1; omega) (Or.inl ⟨(by have h0z := F10.2.1; have h1z := F23.2.1; omega), fun q => (by rw [e26, e13]; exact q)⟩)
theorem o_45 {L : Nat} {ρ : Nat → Int} {rc : eQ} {d : Nat} {F : List eFr} {μ : eM} {g : Nat → Nat} {i : Int} (hL : L ≤ 4096) (hρ : ∀ j, -2147483648 ≤ ρ j ∧ ρ j ≤ 2147483647) (hi : 0 ≤ i ∧ i + 8 ≤ (L : Int)) (hI : SI g μ) (g64 : g 64 = 1) (g98 : g 98 = 52) (hP : RP g μ) (hB : HB g μ 64) (K : ∀ (g2 : Nat → Nat) (m : eM), GP g g2 → SI g2 m → RP g2 m → HB g2 m 64 → m.2.1.length ≤ μ.2.1.length + 250 → (m.2.2 ≤ μ.2.2 + 10281 ∧ (μ.1 64 10 ≠ 0 → m.1 64 10 ≠ 0) ∨ μ.1 64 10 = 0 ∧ m.1 64 10 ≠ 0 ∧ m.2.2 ≤ μ.2.2 + 19700) → ex_q (dt_fg L ρ) rc (d + 14, (0, 1788, [some (eR 1), some (eR 64), some (eR 98), some (eI (i))], []), F, m)) : ex_q (dt_fg L ρ) rc (d + 14, (0, 1683, [some (eR 1), some (eR 64), some (eR 98), some (eI (i))], []), F, μ) := by
  refine w_s (np := 1684) (lv' := [some (eR 1), some (eR 64), some (eR 98), some (eI (i))]) (st' := [eR 64]) rfl rfl rfl ?_
  refine w_s (np := 1685) (lv' := [some (eR 1), some (eR 64), some (eR 98), some (eI (i))]) (st' := [eR 1, eR 64]) rfl rfl rfl ?_
  refine w_s (np := 1686) (lv' := [some (eR 1), some (eR 64), some (eR 98), some (eI (i))]) (st' := [eI (i), eR 1, eR 64]) rfl rfl rfl ?_
  refine w_s (np := 1687) (lv' := [some (eR 1), some (eR 64), some (eR 98), some (eI (i))]) (st' := [eI (1), eI (i), eR 1, eR 64]) rfl rfl rfl ?_
  have w1 : ev_w (i + 1) = (i + 1) := ev_w_in (by omega) (by omega)
  refine w_s (np := 1688) (lv' := [some (eR 1), some (eR 64), some (eR 98), some (eI (i))]) (st' := [eI (i + 1), eR 1, eR 64]) rfl (congrArg (fun q : Int => (some ([some (eR 1), some (eR 64), some (eR 98), some (eI (i))], eI q :: [eR 1, eR 64]) : Option (List (Option eV) × List eV))) w1) rfl ?_
  refine w_al (np := 1689) (v := ρ (i + 1).toNat) rfl rfl (lw_sc hL (by omega) (by omega)) ?_
  refine w_cw (np := 1692) (as := [eI (ρ (i + 1).toNat)]) (l2 := [some (eR 64), some (eI (ρ (i + 1).toNat)), none]) (rest := []) rfl rfl rfl (Nat.ble_eq.mp rfl) rfl rfl rfl (hI.kd g64 (by decide) (n := 14) rfl) rfl ?_
  refine s_200 (a1 := ρ (i + 1).toNat) hI g64 (hρ _)  ?_
  intro m4 v2 I5 F6 b3
  have p7 : RP g m4 := RP.fr hP F6 rfl
  have b8 := HB.fr hB g64 F6 rfl
  have e9 : m4.1 64 10 = μ.1 64 10 := F6.k rfl g64 (by decide) rfl
  show ex_q (dt_fg L ρ) rc (d + 14, (0, 1692, [some (eR 1), some (eR 64), some (eR 98), some (eI (i))], [eI v2]), F, m4)
  refine w_s (np := 1693) (lv' := [some (eR 1), some (eR 64), some (eR 98), some (eI (i))]) (st' := []) rfl rfl rfl ?_
  refine w_s (np := 1694) (lv' := [some (eR 1), some (eR 64), some (eR 98), some (eI (i))]) (st' := [eR 98]) rfl rfl rfl ?_
  refine w_s (np := 1695) (lv' := [some (eR 1), some (eR 64), some (eR 98), some (eI (i))]) (st' := [eR 1, eR 98]) rfl rfl rfl ?_
  refine w_s (np := 1696) (lv' := [some (eR 1), some (eR 64), some (eR 98), some (eI (i))]) (st' := [eI (i), eR 1, eR 98]) rfl rfl rfl ?_
  refine w_s (np := 1697) (lv' := [some (eR 1), some (eR 64), some (eR 98), some (eI (i))]) (st' := [eI (1), eI (i), eR 1, eR 98]) rfl rfl rfl ?_
  have w10 : ev_w (i + 1) = (i + 1) := ev_w_in (by omega) (by omega)
  refine w_s (np := 1698) (lv' := [some (eR 1), some (eR 64), some (eR 98), some (eI (i))]) (st' := [eI (i + 1), eR 1, eR 98]) rfl (congrArg (fun q : Int => (some ([some (eR 1), some (eR 64), some (eR 98), some (eI (i))], eI q :: [eR 1, eR 98]) : Option (List (Option eV) × List eV))) w10) rfl ?_
  refine w_al (np := 1699) (v := ρ (i + 1).toNat) rfl rfl (lw_sc hL (by omega) (by omega)) ?_
  refine w_cw (np := 1702) (as := [eI (ρ (i + 1).toNat)]) (l2 := [some (eR 98), some (eI (ρ (i + 1).toNat)), none]) (rest := []) rfl rfl rfl (Nat.ble_eq.mp rfl) rfl rfl rfl (I5.kd g98 (by decide) (n := 69) rfl) rfl ?_
  refine s_353 (a1 := ρ (i + 1).toNat) I5 g98 (hρ _)  ?_
  intro m13 v11 I14 F15 b12
  have p16 : RP g m13 := RP.fr p7 F15 rfl
  have b17 := HB.fr b8 g64 F15 rfl
  have e18 : m13.1 64 10 = m4.1 64 10 := F15.k rfl g64 (by decide) rfl
  show ex_q (dt_fg L ρ) rc (d + 14, (0, 1702, [some (eR 1), some (eR 64), some (eR 98), some (eI (i))], [eI v11]), F, m13)
  refine w_s (np := 1703) (lv' := [some (eR 1), some (eR 64), some (eR 98), some (eI (i))]) (st' := []) rfl rfl rfl ?_
  refine w_go (t1 := 1788) rfl rfl ?_
  exact K g m13 (GP.r hI.1) I14 p16 b17 (by have h0z := F6.1; have h1z := F15.1; omega) (Or.inl ⟨(by have h0z := F6.2.1; have h1z := F15.2.1; omega), fun q => (by rw [e18, e9]; exact q)⟩)
theorem o_46 {L : Nat} {ρ : Nat → Int} {rc : eQ} {d : Nat} {F : List eFr} {μ : eM} {g : Nat → Nat} {i : Int} (hL : L ≤ 4096) (hρ : ∀ j, -2147483648 ≤ ρ j ∧ ρ j ≤ 2147483647) (hi : 0 ≤ i ∧ i + 8 ≤ (L : Int)) (hI : SI g μ) (g64 : g 64 = 1) (g98 : g 98 = 52) (hP : RP g μ) (hB : HB g μ 64) (K : ∀ (g2 : Nat → Nat) (m : eM), GP g g2 → SI g2 m → RP g2 m → HB g2 m 64 → m.2.1.length ≤ μ.2.1.length + 250 → (m.2.2 ≤ μ.2.2 + 10281 ∧ (μ.1 64 10 ≠ 0 → m.1 64 10 ≠ 0) ∨ μ.1 64 10 = 0 ∧ m.1 64 10 ≠ 0 ∧ m.2.2 ≤ μ.2.2 + 19700) → ex_q (dt_fg L ρ) rc (d + 14, (0, 1788, [some (eR 1), some (eR 64), some (eR 98), some (eI (i))], []), F, m)) : ex_q (dt_fg L ρ) rc (d + 14, (0, 1706, [some (eR 1), some (eR 64), some (eR 98), some (eI (i))], []), F, μ) := by
  refine w_s (np := 1707) (lv' := [some (eR 1), some (eR 64), some (eR 98), some (eI (i))]) (st' := [eR 64]) rfl rfl rfl ?_
  refine w_s (np := 1708) (lv' := [some (eR 1), some (eR 64), some (eR 98), some (eI (i))]) (st' := [eR 1, eR 64]) rfl rfl rfl ?_
  refine w_s (np := 1709) (lv' := [some (eR 1), some (eR 64), some (eR 98), some (eI (i))]) (st' := [eI (i), eR 1, eR 64]) rfl rfl rfl ?_
  refine w_s (np := 1710) (lv' := [some (eR 1), some (eR 64), some (eR 98), some (eI (i))]) (st' := [eI (1), eI (i), eR 1, eR 64]) rfl rfl rfl ?_
  have w1 : ev_w (i + 1) = (i + 1) := ev_w_in (by omega) (by omega)
  refine w_s (np := 1711) (lv' := [some (eR 1), some (eR 64), some (eR 98), some (eI (i))]) (st' := [eI (i + 1), eR 1, eR 64]) rfl (congrArg (fun q : Int => (some ([some (eR 1), some (eR 64), some (eR 98), some (eI (i))], eI q :: [eR 1, eR 64]) : Option (List (Option eV) × List eV))) w1) rfl ?_
  refine w_al (np := 1712) (v := ρ (i + 1).toNat) rfl rfl (lw_sc hL (by omega) (by omega)) ?_
  refine w_cw (np := 1715) (as := [eI (ρ (i + 1).toNat)]) (l2 := [some (eR 64), some (eI (ρ (i + 1).toNat))]) (rest := []) rfl rfl rfl (Nat.ble_eq.mp rfl) rfl rfl rfl (hI.kd g64 (by decide) (n := 14) rfl) rfl ?_
  refine s_201 (a1 := ρ (i + 1).toNat) hI g64 (hρ _)  ?_
  intro v2 b3
  show ex_q (dt_fg L ρ) rc (d + 14, (0, 1715, [some (eR 1), some (eR 64), some (eR 98), some (eI (i))], [eI v2]), F, μ)
  refine w_s (np := 1716) (lv' := [some (eR 1), some (eR 64), some (eR 98), some (eI (i))]) (st' := []) rfl rfl rfl ?_
  refine w_s (np := 1717) (lv' := [some (eR 1), some (eR 64), some (eR 98), some (eI (i))]) (st' := [eR 98]) rfl rfl rfl ?_
  refine w_s (np := 1718) (lv' := [some (eR 1), some (eR 64), some (eR 98), some (eI (i))]) (st' := [eR 1, eR 98]) rfl rfl rfl ?_
  refine w_s (np := 1719) (lv' := [some (eR 1), some (eR 64), some (eR 98), some (eI (i))]) (st' := [eI (i), eR 1, eR 98]) rfl rfl rfl ?_
  refine w_s (np := 1720) (lv' := [some (eR 1), some (eR 64), some (eR 98), some (eI (i))]) (st' := [eI (1), eI (i), eR 1, eR 98]) rfl rfl rfl ?_
  have w4 : ev_w (i + 1) = (i + 1) := ev_w_in (by omega) (by omega)
  refine w_s (np := 1721) (lv' := [some (eR 1), some (eR 64), some (eR 98), some (eI (i))]) (st' := [eI (i + 1), eR 1, eR 98]) rfl (congrArg (fun q : Int => (some ([some (eR 1), some (eR 64), some (eR 98), some (eI (i))], eI q :: [eR 1, eR 98]) : Option (List (Option eV) × List eV))) w4) rfl ?_
  refine w_al (np := 1722) (v := ρ (i + 1).toNat) rfl rfl (lw_sc hL (by omega) (by omega)) ?_
  refine w_cw (np := 1725) (as := [eI (ρ (i + 1).toNat)]) (l2 := [some (eR 98), some (eI (ρ (i + 1).toNat))]) (rest := []) rfl rfl rfl (Nat.ble_eq.mp rfl) rfl rfl rfl (hI.kd g98 (by decide) (n := 69) rfl) rfl ?_
  refine s_354 (a1 := ρ (i + 1).toNat) hI g98 (hρ _)  ?_
  intro m7 v5 I8 F9 b6
  have p10 : RP g m7 := RP.fr hP F9 rfl
  have b11 := HB.fr hB g64 F9 rfl
  have e12 : m7.1 64 10 = μ.1 64 10 := F9.k rfl g64 (by decide) rfl
  show ex_q (dt_fg L ρ) rc (d + 14, (0, 1725, [some (eR 1), some (eR 64), some (eR 98), some (eI (i))], [eI v5]), F, m7)
  refine w_s (np := 1726) (lv' := [some (eR 1), some (eR 64), some (eR 98), some (eI (i))]) (st' := []) rfl rfl rfl ?_
  refine w_go (t1 := 1788) rfl rfl ?_
  exact K g m7 (GP.r hI.1) I8 p10 b11 (by have h0z := F9.1; omega) (Or.inl ⟨(by have h0z := F9.2.1; omega), fun q => (by rw [e12]; exact q)⟩)
theorem o_47 {L : Nat} {ρ : Nat → Int} {rc : eQ} {d : Nat} {F : List eFr} {μ : eM} {g : Nat → Nat} {i : Int} (hL : L ≤ 4096) (hρ : ∀ j, -2147483648 ≤ ρ j ∧ ρ j ≤ 2147483647) (hi : 0 ≤ i ∧ i + 8 ≤ (L : Int)) (hI : SI g μ) (g64 : g 64 = 1) (g98 : g 98 = 52) (hP : RP g μ) (hB : HB g μ 64) (K : ∀ (g2 : Nat → Nat) (m : eM), GP g g2 → SI g2 m → RP g2 m → HB g2 m 64 → m.2.1.length ≤ μ.2.1.length + 250 → (m.2.2 ≤ μ.2.2 + 10281 ∧ (μ.1 64 10 ≠ 0 → m.1 64 10 ≠ 0) ∨ μ.1 64 10 = 0 ∧ m.1 64 10 ≠ 0 ∧ m.2.2 ≤ μ.2.2 + 19700) → ex_q (dt_fg L ρ) rc (d + 14, (0, 1788, [some (eR 1), some (eR 64), some (eR 98), some (eI (i))], []), F, m)) : ex_q (dt_fg L ρ) rc (d + 14, (0, 1729, [some (eR 1), some (eR 64), some (eR 98), some (eI (i))], []), F, μ) := by
  refine w_s (np := 1730) (lv' := [some (eR 1), some (eR 64), some (eR 98), some (eI (i))]) (st' := [eR 64]) rfl rfl rfl ?_
  refine w_cw (np := 1733) (as := []) (l2 := [some (eR 64)]) (rest := []) rfl rfl rfl (Nat.ble_eq.mp rfl) rfl rfl rfl (hI.kd g64 (by decide) (n := 14) rfl) rfl ?_
  refine s_202 hI g64   ?_
  intro m3 v1 I4 F5 b2
  have p6 : RP g m3 := RP.fr hP F5 rfl
  have b7 := HB.fr hB g64 F5 rfl
  have e8 : m3.1 64 10 = μ.1 64 10 := F5.k rfl g64 (by decide) rfl
  show ex_q (dt_fg L ρ) rc (d + 14, (0, 1733, [some (eR 1), some (eR 64), some (eR 98), some (eI (i))], [eI v1]), F, m3)
  refine w_s (np := 1734) (lv' := [some (eR 1), some (eR 64), some (eR 98), some (eI (i))]) (st' := []) rfl rfl rfl ?_
  refine w_s (np := 1735) (lv' := [some (eR 1), some (eR 64), some (eR 98), some (eI (i))]) (st' := [eR 98]) rfl rfl rfl ?_
  refine w_cw (np := 1738) (as := []) (l2 := [some (eR 98), none, none]) (rest := []) rfl rfl rfl (Nat.ble_eq.mp rfl) rfl rfl rfl (I4.kd g98 (by decide) (n := 69) rfl) rfl ?_
  refine s_357 I4 g98   ?_
  intro m11 v9 I12 F13 b10
  have p14 : RP g m11 := RP.fr p6 F13 rfl
  have b15 := HB.fr b7 g64 F13 rfl
  have e16 : m11.1 64 10 = m3.1 64 10 := F13.k rfl g64 (by decide) rfl
  show ex_q (dt_fg L ρ) rc (d + 14, (0, 1738, [some (eR 1), some (eR 64), some (eR 98), some (eI (i))], [eI v9]), F, m11)
  refine w_s (np := 1739) (lv' := [some (eR 1), some (eR 64), some (eR 98), some (eI (i))]) (st' := []) rfl rfl rfl ?_
  refine w_go (t1 := 1788) rfl rfl ?_
  exact K g m11 (GP.r hI.1) I12 p14 b15 (by have h0z := F5.1; have h1z := F13.1; omega) (Or.inl ⟨(by have h0z := F5.2.1; have h1z := F13.2.1; omega), fun q => (by rw [e16, e8]; exact q)⟩)
theorem o_48 {L : Nat} {ρ : Nat → Int} {rc : eQ} {d : Nat} {F : List eFr} {μ : eM} {g : Nat → Nat} {i : Int} (hL : L ≤ 4096) (hρ : ∀ j, -2147483648 ≤ ρ j ∧ ρ j ≤ 2147483647) (hi : 0 ≤ i ∧ i + 8 ≤ (L : Int)) (hI : SI g μ) (g64 : g 64 = 1) (g98 : g 98 = 52) (hP : RP g μ) (hB : HB g μ 64) (K : ∀ (g2 : Nat → Nat) (m : eM), GP g g2 → SI g2 m → RP g2 m → HB g2 m 64 → m.2.1.length ≤ μ.2.1.length + 250 → (m.2.2 ≤ μ.2.2 + 10281 ∧ (μ.1 64 10 ≠ 0 → m.1 64 10 ≠ 0) ∨ μ.1 64 10 = 0 ∧ m.1 64 10 ≠ 0 ∧ m.2.2 ≤ μ.2.2 + 19700) → ex_q (dt_fg L ρ) rc (d + 14, (0, 1788, [some (eR 1), some (eR 64), some (eR 98), some (eI (i))], []), F, m)) : ex_q (dt_fg L ρ) rc (d + 14, (0, 1742, [some (eR 1), some (eR 64), some (eR 98), some (eI (i))], []), F, μ) := by
  refine w_s (np := 1743) (lv' := [some (eR 1), some (eR 64), some (eR 98), some (eI (i))]) (st' := [eR 64]) rfl rfl rfl ?_
  refine w_s (np := 1744) (lv' := [some (eR 1), some (eR 64), some (eR 98), some (eI (i))]) (st' := [eR 1, eR 64]) rfl rfl rfl ?_
  refine w_s (np := 1745) (lv' := [some (eR 1), some (eR 64), some (eR 98), some (eI (i))]) (st' := [eI (i), eR 1, eR 64]) rfl rfl rfl ?_
  refine w_s (np := 1746) (lv' := [some (eR 1), some (eR 64), some (eR 98), some (eI (i))]) (st' := [eI (1), eI (i), eR 1, eR 64]) rfl rfl rfl ?_
  have w1 : ev_w (i + 1) = (i + 1) := ev_w_in (by omega) (by omega)
  refine w_s (np := 1747) (lv' := [some (eR 1), some (eR 64), some (eR 98), some (eI (i))]) (st' := [eI (i + 1), eR 1, eR 64]) rfl (congrArg (fun q : Int => (some ([some (eR 1), some (eR 64), some (eR 98), some (eI (i))], eI q :: [eR 1, eR 64]) : Option (List (Option eV) × List eV))) w1) rfl ?_
  refine w_al (np := 1748) (v := ρ (i + 1).toNat) rfl rfl (lw_sc hL (by omega) (by omega)) ?_
  refine w_cw (np := 1751) (as := [eI (ρ (i + 1).toNat)]) (l2 := [some (eR 64), some (eI (ρ (i + 1).toNat))]) (rest := []) rfl rfl rfl (Nat.ble_eq.mp rfl) rfl rfl rfl (hI.kd g64 (by decide) (n := 14) rfl) rfl ?_
  refine s_203 (a1 := ρ (i + 1).toNat) hI g64 (hρ _)  ?_
  intro m4 v2 I5 F6 b3
  have p7 : RP g m4 := RP.fr hP F6 rfl
  have b8 := HB.fr hB g64 F6 rfl
  have e9 : m4.1 64 10 = μ.1 64 10 := F6.k rfl g64 (by decide) rfl
  show ex_q (dt_fg L ρ) rc (d + 14, (0, 1751, [some (eR 1), some (eR 64), some (eR 98), some (eI (i))], [eI v2]), F, m4)
  refine w_s (np := 1752) (lv' := [some (eR 1), some (eR 64), some (eR 98), some (eI (i))]) (st' := []) rfl rfl rfl ?_
  refine w_s (np := 1753) (lv' := [some (eR 1), some (eR 64), some (eR 98), some (eI (i))]) (st' := [eR 98]) rfl rfl rfl ?_
  refine w_s (np := 1754) (lv' := [some (eR 1), some (eR 64), some (eR 98), some (eI (i))]) (st' := [eR 1, eR 98]) rfl rfl rfl ?_
  refine w_s (np := 1755) (lv' := [some (eR 1), some (eR 64), some (eR 98), some (eI (i))]) (st' := [eI (i), eR 1, eR 98]) rfl rfl rfl ?_
  refine w_s (np := 1756) (lv' := [some (eR 1), some (eR 64), some (eR 98), some (eI (i))]) (st' := [eI (1), eI (i), eR 1, eR 98]) rfl rfl rfl ?_
  have w10 : ev_w (i + 1) = (i + 1) := ev_w_in (by omega) (by omega)
  refine w_s (np := 1757) (lv' := [some (eR 1), some (eR 64), some (eR 98), some (eI (i))]) (st' := [eI (i + 1), eR 1, eR 98]) rfl (congrArg (fun q : Int => (some ([some (eR 1), some (eR 64), some (eR 98), some (eI (i))], eI q :: [eR 1, eR 98]) : Option (List (Option eV) × List eV))) w10) rfl ?_
  refine w_al (np := 1758) (v := ρ (i + 1).toNat) rfl rfl (lw_sc hL (by omega) (by omega)) ?_
  refine w_cw (np := 1761) (as := [eI (ρ (i + 1).toNat)]) (l2 := [some (eR 98), some (eI (ρ (i + 1).toNat))]) (rest := []) rfl rfl rfl (Nat.ble_eq.mp rfl) rfl rfl rfl (I5.kd g98 (by decide) (n := 69) rfl) rfl ?_
  refine s_358 (a1 := ρ (i + 1).toNat) I5 g98 (hρ _)  ?_
  intro m13 v11 I14 F15 b12
  have p16 : RP g m13 := RP.fr p7 F15 rfl
  have b17 := HB.fr b8 g64 F15 rfl
  have e18 : m13.1 64 10 = m4.1 64 10 := F15.k rfl g64 (by decide) rfl
  show ex_q (dt_fg L ρ) rc (d + 14, (0, 1761, [some (eR 1), some (eR 64), some (eR 98), some (eI (i))], [eI v11]), F, m13)
  refine w_s (np := 1762) (lv' := [some (eR 1), some (eR 64), some (eR 98), some (eI (i))]) (st' := []) rfl rfl rfl ?_
  refine w_go (t1 := 1788) rfl rfl ?_
  exact K g m13 (GP.r hI.1) I14 p16 b17 (by have h0z := F6.1; have h1z := F15.1; omega) (Or.inl ⟨(by have h0z := F6.2.1; have h1z := F15.2.1; omega), fun q => (by rw [e18, e9]; exact q)⟩)
theorem o_49 {L : Nat} {ρ : Nat → Int} {rc : eQ} {d : Nat} {F : List eFr} {μ : eM} {g : Nat → Nat} {i : Int} (hL : L ≤ 4096) (hρ : ∀ j, -2147483648 ≤ ρ j ∧ ρ j ≤ 2147483647) (hi : 0 ≤ i ∧ i + 8 ≤ (L : Int)) (hI : SI g μ) (g64 : g 64 = 1) (g98 : g 98 = 52) (hP : RP g μ) (hB : HB g μ 64) (K : ∀ (g2 : Nat → Nat) (m : eM), GP g g2 → SI g2 m → RP g2 m → HB g2 m 64 → m.2.1.length ≤ μ.2.1.length + 250 → (m.2.2 ≤ μ.2.2 + 10281 ∧ (μ.1 64 10 ≠ 0 → m.1 64 10 ≠ 0) ∨ μ.1 64 10 = 0 ∧ m.1 64 10 ≠ 0 ∧ m.2.2 ≤ μ.2.2 + 19700) → ex_q (dt_fg L ρ) rc (d + 14, (0, 1788, [some (eR 1), some (eR 64), some (eR 98), some (eI (i))], []), F, m)) : ex_q (dt_fg L ρ) rc (d + 14, (0, 1765, [some (eR 1), some (eR 64), some (eR 98), some (eI (i))], []), F, μ) := by
  refine w_s (np := 1766) (lv' := [some (eR 1), some (eR 64), some (eR 98), some (eI (i))]) (st' := [eR 64]) rfl rfl rfl ?_
  refine w_s (np := 1767) (lv' := [some (eR 1), some (eR 64), some (eR 98), some (eI (i))]) (st' := [eR 1, eR 64]) rfl rfl rfl ?_
  refine w_s (np := 1768) (lv' := [some (eR 1), some (eR 64), some (eR 98), some (eI (i))]) (st' := [eI (i), eR 1, eR 64]) rfl rfl rfl ?_
  refine w_s (np := 1769) (lv' := [some (eR 1), some (eR 64), some (eR 98), some (eI (i))]) (st' := [eI (1), eI (i), eR 1, eR 64]) rfl rfl rfl ?_
  have w1 : ev_w (i + 1) = (i + 1) := ev_w_in (by omega) (by omega)
  refine w_s (np := 1770) (lv' := [some (eR 1), some (eR 64), some (eR 98), some (eI (i))]) (st' := [eI (i + 1), eR 1, eR 64]) rfl (congrArg (fun q : Int => (some ([some (eR 1), some (eR 64), some (eR 98), some (eI (i))], eI q :: [eR 1, eR 64]) : Option (List (Option eV) × List eV))) w1) rfl ?_
  refine w_al (np := 1771) (v := ρ (i + 1).toNat) rfl rfl (lw_sc hL (by omega) (by omega)) ?_
  refine w_cw (np := 1774) (as := [eI (ρ (i + 1).toNat)]) (l2 := [some (eR 64), some (eI (ρ (i + 1).toNat))]) (rest := []) rfl rfl rfl (Nat.ble_eq.mp rfl) rfl rfl rfl (hI.kd g64 (by decide) (n := 14) rfl) rfl ?_
  refine s_204 (a1 := ρ (i + 1).toNat) hI g64 (hρ _)  ?_
  intro m4 v2 I5 F6 b3
  have p7 : RP g m4 := RP.fr hP F6 rfl
  have b8 := HB.fr hB g64 F6 rfl
  have e9 : m4.1 64 10 = μ.1 64 10 := F6.k rfl g64 (by decide) rfl
  show ex_q (dt_fg L ρ) rc (d + 14, (0, 1774, [some (eR 1), some (eR 64), some (eR 98), some (eI (i))], [eI v2]), F, m4)
  refine w_s (np := 1775) (lv' := [some (eR 1), some (eR 64), some (eR 98), some (eI (i))]) (st' := []) rfl rfl rfl ?_
  refine w_s (np := 1776) (lv' := [some (eR 1), some (eR 64), some (eR 98), some (eI (i))]) (st' := [eR 98]) rfl rfl rfl ?_
  refine w_s (np := 1777) (lv' := [some (eR 1), some (eR 64), some (eR 98), some (eI (i))]) (st' := [eR 1, eR 98]) rfl rfl rfl ?_
  refine w_s (np := 1778) (lv' := [some (eR 1), some (eR 64), some (eR 98), some (eI (i))]) (st' := [eI (i), eR 1, eR 98]) rfl rfl rfl ?_
  refine w_s (np := 1779) (lv' := [some (eR 1), some (eR 64), some (eR 98), some (eI (i))]) (st' := [eI (1), eI (i), eR 1, eR 98]) rfl rfl rfl ?_
  have w10 : ev_w (i + 1) = (i + 1) := ev_w_in (by omega) (by omega)
  refine w_s (np := 1780) (lv' := [some (eR 1), some (eR 64), some (eR 98), some (eI (i))]) (st' := [eI (i + 1), eR 1, eR 98]) rfl (congrArg (fun q : Int => (some ([some (eR 1), some (eR 64), some (eR 98), some (eI (i))], eI q :: [eR 1, eR 98]) : Option (List (Option eV) × List eV))) w10) rfl ?_
  refine w_al (np := 1781) (v := ρ (i + 1).toNat) rfl rfl (lw_sc hL (by omega) (by omega)) ?_
  refine w_cw (np := 1784) (as := [eI (ρ (i + 1).toNat)]) (l2 := [some (eR 98), some (eI (ρ (i + 1).toNat)), none, none]) (rest := []) rfl rfl rfl (Nat.ble_eq.mp rfl) rfl rfl rfl (I5.kd g98 (by decide) (n := 69) rfl) rfl ?_
  refine s_341 (a1 := ρ (i + 1).toNat) I5 g98 (hρ _)  ?_
  intro m13 v11 I14 F15 b12
  have p16 : RP g m13 := RP.fr p7 F15 rfl
  have b17 := HB.fr b8 g64 F15 rfl
  have e18 : m13.1 64 10 = m4.1 64 10 := F15.k rfl g64 (by decide) rfl
  show ex_q (dt_fg L ρ) rc (d + 14, (0, 1784, [some (eR 1), some (eR 64), some (eR 98), some (eI (i))], [eI v11]), F, m13)
  refine w_s (np := 1785) (lv' := [some (eR 1), some (eR 64), some (eR 98), some (eI (i))]) (st' := []) rfl rfl rfl ?_
  refine w_go (t1 := 1788) rfl rfl ?_
  exact K g m13 (GP.r hI.1) I14 p16 b17 (by have h0z := F6.1; have h1z := F15.1; omega) (Or.inl ⟨(by have h0z := F6.2.1; have h1z := F15.2.1; omega), fun q => (by rw [e18, e9]; exact q)⟩)
