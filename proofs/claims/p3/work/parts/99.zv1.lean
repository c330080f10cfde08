/-! THE LAWS TURNS -/
theorem o_0 {L : Nat} {ρ : Nat → Int} {rc : eQ} {d : Nat} {F : List eFr} {μ : eM} {g : Nat → Nat} {i : Int} (hL : L ≤ 4096) (hρ : ∀ j, -2147483648 ≤ ρ j ∧ ρ j ≤ 2147483647) (hi : 0 ≤ i ∧ i + 8 ≤ (L : Int)) (hI : SI g μ) (g64 : g 64 = 1) (g98 : g 98 = 52) (hP : RP g μ) (hB : HB g μ 64) (K : ∀ (g2 : Nat → Nat) (m : eM), GP g g2 → SI g2 m → RP g2 m → HB g2 m 64 → m.2.1.length ≤ μ.2.1.length + 250 → (m.2.2 ≤ μ.2.2 + 10281 ∧ (μ.1 64 10 ≠ 0 → m.1 64 10 ≠ 0) ∨ μ.1 64 10 = 0 ∧ m.1 64 10 ≠ 0 ∧ m.2.2 ≤ μ.2.2 + 19700) → ex_q (dt_fg L ρ) rc (d + 14, (0, 1788, [some (eR 1), some (eR 64), some (eR 98), some (eI (i))], []), F, m)) : ex_q (dt_fg L ρ) rc (d + 14, (0, 248, [some (eR 1), some (eR 64), some (eR 98), some (eI (i))], []), F, μ) := by
  refine w_s (np := 249) (lv' := [some (eR 1), some (eR 64), some (eR 98), some (eI (i))]) (st' := [eR 64]) rfl rfl rfl ?_
  refine w_cw (np := 252) (as := []) (l2 := [some (eR 64)]) (rest := []) rfl rfl rfl (Nat.ble_eq.mp rfl) rfl rfl rfl (hI.kd g64 (by decide) (n := 14) rfl) rfl ?_
  refine s_155 hI g64   ?_
  intro v1 b2
  show ex_q (dt_fg L ρ) rc (d + 14, (0, 252, [some (eR 1), some (eR 64), some (eR 98), some (eI (i))], [eI v1]), F, μ)
  refine w_s (np := 253) (lv' := [some (eR 1), some (eR 64), some (eR 98), some (eI (i))]) (st' := []) rfl rfl rfl ?_
  refine w_s (np := 254) (lv' := [some (eR 1), some (eR 64), some (eR 98), some (eI (i))]) (st' := [eR 98]) rfl rfl rfl ?_
  refine w_cw (np := 257) (as := []) (l2 := [some (eR 98)]) (rest := []) rfl rfl rfl (Nat.ble_eq.mp rfl) rfl rfl rfl (hI.kd g98 (by decide) (n := 69) rfl) rfl ?_
  refine s_213 hI g98   ?_
  intro m5 v3 I6 F7 b4
  have p8 : RP g m5 := RP.fr hP F7 rfl
  have b9 := HB.fr hB g64 F7 rfl
  have e10 : m5.1 64 10 = μ.1 64 10 := F7.k rfl g64 (by decide) rfl
  show ex_q (dt_fg L ρ) rc (d + 14, (0, 257, [some (eR 1), some (eR 64), some (eR 98), some (eI (i))], [eI v3]), F, m5)
  refine w_s (np := 258) (lv' := [some (eR 1), some (eR 64), some (eR 98), some (eI (i))]) (st' := []) rfl rfl rfl ?_
  refine w_go (t1 := 1788) rfl rfl ?_
  exact K g m5 (GP.r hI.1) I6 p8 b9 (by have h0z := F7.1; omega) (Or.inl ⟨(by have h0z := F7.2.1; omega), fun q => (by rw [e10]; exact q)⟩)
theorem o_1 {L : Nat} {ρ : Nat → Int} {rc : eQ} {d : Nat} {F : List eFr} {μ : eM} {g : Nat → Nat} {i : Int} (hL : L ≤ 4096) (hρ : ∀ j, -2147483648 ≤ ρ j ∧ ρ j ≤ 2147483647) (hi : 0 ≤ i ∧ i + 8 ≤ (L : Int)) (hI : SI g μ) (g64 : g 64 = 1) (g98 : g 98 = 52) (hP : RP g μ) (hB : HB g μ 64) (K : ∀ (g2 : Nat → Nat) (m : eM), GP g g2 → SI g2 m → RP g2 m → HB g2 m 64 → m.2.1.length ≤ μ.2.1.length + 250 → (m.2.2 ≤ μ.2.2 + 10281 ∧ (μ.1 64 10 ≠ 0 → m.1 64 10 ≠ 0) ∨ μ.1 64 10 = 0 ∧ m.1 64 10 ≠ 0 ∧ m.2.2 ≤ μ.2.2 + 19700) → ex_q (dt_fg L ρ) rc (d + 14, (0, 1788, [some (eR 1), some (eR 64), some (eR 98), some (eI (i))], []), F, m)) : ex_q (dt_fg L ρ) rc (d + 14, (0, 261, [some (eR 1), some (eR 64), some (eR 98), some (eI (i))], []), F, μ) := by
  refine w_s (np := 262) (lv' := [some (eR 1), some (eR 64), some (eR 98), some (eI (i))]) (st' := [eR 64]) rfl rfl rfl ?_
  refine w_s (np := 263) (lv' := [some (eR 1), some (eR 64), some (eR 98), some (eI (i))]) (st' := [eR 1, eR 64]) rfl rfl rfl ?_
  refine w_s (np := 264) (lv' := [some (eR 1), some (eR 64), some (eR 98), some (eI (i))]) (st' := [eI (i), eR 1, eR 64]) rfl rfl rfl ?_
  refine w_s (np := 265) (lv' := [some (eR 1), some (eR 64), some (eR 98), some (eI (i))]) (st' := [eI (1), eI (i), eR 1, eR 64]) rfl rfl rfl ?_
  have w1 : ev_w (i + 1) = (i + 1) := ev_w_in (by omega) (by omega)
  refine w_s (np := 266) (lv' := [some (eR 1), some (eR 64), some (eR 98), some (eI (i))]) (st' := [eI (i + 1), eR 1, eR 64]) rfl (congrArg (fun q : Int => (some ([some (eR 1), some (eR 64), some (eR 98), some (eI (i))], eI q :: [eR 1, eR 64]) : Option (List (Option eV) × List eV))) w1) rfl ?_
  refine w_al (np := 267) (v := ρ (i + 1).toNat) rfl rfl (lw_sc hL (by omega) (by omega)) ?_
  refine w_cw (np := 270) (as := [eI (ρ (i + 1).toNat)]) (l2 := [some (eR 64), some (eI (ρ (i + 1).toNat))]) (rest := []) rfl rfl rfl (Nat.ble_eq.mp rfl) rfl rfl rfl (hI.kd g64 (by decide) (n := 14) rfl) rfl ?_
  refine s_156 (a1 := ρ (i + 1).toNat) hI g64 (hρ _)  ?_
  intro m5 v2 I6 F7 b3 h4
  have p8 : RP g m5 := RP.fr hP F7 rfl
  have b9 := HB.fr hB g64 F7 rfl
  have e10 : m5.1 64 10 = μ.1 64 10 := F7.k rfl g64 (by decide) rfl
  show ex_q (dt_fg L ρ) rc (d + 14, (0, 270, [some (eR 1), some (eR 64), some (eR 98), some (eI (i))], [eI v2]), F, m5)
  refine w_s (np := 271) (lv' := [some (eR 1), some (eR 64), some (eR 98), some (eI (i))]) (st' := [eR 98, eI v2]) rfl rfl rfl ?_
  refine w_s (np := 272) (lv' := [some (eR 1), some (eR 64), some (eR 98), some (eI (i))]) (st' := [eR 1, eR 98, eI v2]) rfl rfl rfl ?_
  refine w_s (np := 273) (lv' := [some (eR 1), some (eR 64), some (eR 98), some (eI (i))]) (st' := [eI (i), eR 1, eR 98, eI v2]) rfl rfl rfl ?_
  refine w_s (np := 274) (lv' := [some (eR 1), some (eR 64), some (eR 98), some (eI (i))]) (st' := [eI (1), eI (i), eR 1, eR 98, eI v2]) rfl rfl rfl ?_
  have w11 : ev_w (i + 1) = (i + 1) := ev_w_in (by omega) (by omega)
  refine w_s (np := 275) (lv' := [some (eR 1), some (eR 64), some (eR 98), some (eI (i))]) (st' := [eI (i + 1), eR 1, eR 98, eI v2]) rfl (congrArg (fun q : Int => (some ([some (eR 1), some (eR 64), some (eR 98), some (eI (i))], eI q :: [eR 1, eR 98, eI v2]) : Option (List (Option eV) × List eV))) w11) rfl ?_
  refine w_al (np := 276) (v := ρ (i + 1).toNat) rfl rfl (lw_sc hL (by omega) (by omega)) ?_
  refine w_cw (np := 279) (as := [eI (ρ (i + 1).toNat)]) (l2 := [some (eR 98), some (eI (ρ (i + 1).toNat))]) (rest := [eI v2]) rfl rfl rfl (Nat.ble_eq.mp rfl) rfl rfl rfl (I6.kd g98 (by decide) (n := 69) rfl) rfl ?_
  refine s_256n (a1 := ρ (i + 1).toNat) I6 g98 (hρ _) p8.1 p8.2.1 p8.2.2.1 p8.2.2.2.1 p8.2.2.2.2.1 p8.2.2.2.2.2.1 p8.2.2.2.2.2.2.1 p8.2.2.2.2.2.2.2 ?_
  intro m23 v12 I24 F25 b13 h14 p15 p16 p17 p18 p19 p20 p21 p22
  have p26 : RP g m23 := ⟨p15, p16, p17, p18, p19, p20, p21, p22⟩
  have b27 := HB.fr b9 g64 F25 rfl
  have e28 : m23.1 64 10 = m5.1 64 10 := F25.k rfl g64 (by decide) rfl
  show ex_q (dt_fg L ρ) rc (d + 14, (0, 279, [some (eR 1), some (eR 64), some (eR 98), some (eI (i))], [eI v12, eI v2]), F, m23)
  have e29 : v2 = v12 := by omega
  refine w_eq (t1 := 1788) (t2 := 282) rfl rfl rfl (ev_w_in (by omega) (by omega)) (ev_w_in (by omega) (by omega)) (fun _ => ?_) (fun z => absurd e29 z)
  exact K g m23 (GP.r hI.1) I24 p26 b27 (by have h0z := F7.1; have h1z := F25.1; omega) (Or.inl ⟨(by have h0z := F7.2.1; have h1z := F25.2.1; omega), fun q => (by rw [e28, e10]; exact q)⟩)
theorem o_2 {L : Nat} {ρ : Nat → Int} {rc : eQ} {d : Nat} {F : List eFr} {μ : eM} {g : Nat → Nat} {i : Int} (hL : L ≤ 4096) (hρ : ∀ j, -2147483648 ≤ ρ j ∧ ρ j ≤ 2147483647) (hi : 0 ≤ i ∧ i + 8 ≤ (L : Int)) (hI : SI g μ) (g64 : g 64 = 1) (g98 : g 98 = 52) (hP : RP g μ) (hB : HB g μ 64) (K : ∀ (g2 : Nat → Nat) (m : eM), GP g g2 → SI g2 m → RP g2 m → HB g2 m 64 → m.2.1.length ≤ μ.2.1.length + 250 → (m.2.2 ≤ μ.2.2 + 10281 ∧ (μ.1 64 10 ≠ 0 → m.1 64 10 ≠ 0) ∨ μ.1 64 10 = 0 ∧ m.1 64 10 ≠ 0 ∧ m.2.2 ≤ μ.2.2 + 19700) → ex_q (dt_fg L ρ) rc (d + 14, (0, 1788, [some (eR 1), some (eR 64), some (eR 98), some (eI (i))], []), F, m)) : ex_q (dt_fg L ρ) rc (d + 14, (0, 284, [some (eR 1), some (eR 64), some (eR 98), some (eI (i))], []), F, μ) := by
  refine w_s (np := 285) (lv' := [some (eR 1), some (eR 64), some (eR 98), some (eI (i))]) (st' := [eR 64]) rfl rfl rfl ?_
  refine w_s (np := 286) (lv' := [some (eR 1), some (eR 64), some (eR 98), some (eI (i))]) (st' := [eR 1, eR 64]) rfl rfl rfl ?_
  refine w_s (np := 287) (lv' := [some (eR 1), some (eR 64), some (eR 98), some (eI (i))]) (st' := [eI (i), eR 1, eR 64]) rfl rfl rfl ?_
  refine w_s (np := 288) (lv' := [some (eR 1), some (eR 64), some (eR 98), some (eI (i))]) (st' := [eI (1), eI (i), eR 1, eR 64]) rfl rfl rfl ?_
  have w1 : ev_w (i + 1) = (i + 1) := ev_w_in (by omega) (by omega)
  refine w_s (np := 289) (lv' := [some (eR 1), some (eR 64), some (eR 98), some (eI (i))]) (st' := [eI (i + 1), eR 1, eR 64]) rfl (congrArg (fun q : Int => (some ([some (eR 1), some (eR 64), some (eR 98), some (eI (i))], eI q :: [eR 1, eR 64]) : Option (List (Option eV) × List eV))) w1) rfl ?_
  refine w_al (np := 290) (v := ρ (i + 1).toNat) rfl rfl (lw_sc hL (by omega) (by omega)) ?_
  refine w_cw (np := 293) (as := [eI (ρ (i + 1).toNat)]) (l2 := [some (eR 64), some (eI (ρ (i + 1).toNat))]) (rest := []) rfl rfl rfl (Nat.ble_eq.mp rfl) rfl rfl rfl (hI.kd g64 (by decide) (n := 14) rfl) rfl ?_
  refine s_157 (a1 := ρ (i + 1).toNat) hI g64 (hρ _) ?_
  intro g2 m3 v4 c5 s6 P7 I8 F9 h10 h11 b12
  have p14 := RP.fr hP F9 rfl
  have p15 := p14.go I8 P7
  have b16 := HB.fr hB g64 F9 rfl
  have b19 := b16.go P7
  have e20 : m3.1 64 10 = μ.1 64 10 := F9.k rfl g64 (by decide) rfl
  have g17 := P7.k g64 (by decide) (by decide) (by decide)
  have g18 := P7.k g98 (by decide) (by decide) (by decide)
  show ex_q (dt_fg L ρ) rc (d + 14, (0, 293, [some (eR 1), some (eR 64), some (eR 98), some (eI (i))], [eI v4]), F, m3)
  refine w_s (np := 294) (lv' := [some (eR 1), some (eR 64), some (eR 98), some (eI (i))]) (st' := []) rfl rfl rfl ?_
  refine w_s (np := 295) (lv' := [some (eR 1), some (eR 64), some (eR 98), some (eI (i))]) (st' := [eR 98]) rfl rfl rfl ?_
  refine w_s (np := 296) (lv' := [some (eR 1), some (eR 64), some (eR 98), some (eI (i))]) (st' := [eR 1, eR 98]) rfl rfl rfl ?_
  refine w_s (np := 297) (lv' := [some (eR 1), some (eR 64), some (eR 98), some (eI (i))]) (st' := [eI (i), eR 1, eR 98]) rfl rfl rfl ?_
  refine w_s (np := 298) (lv' := [some (eR 1), some (eR 64), some (eR 98), some (eI (i))]) (st' := [eI (1), eI (i), eR 1, eR 98]) rfl rfl rfl ?_
  have w21 : ev_w (i + 1) = (i + 1) := ev_w_in (by omega) (by omega)
  refine w_s (np := 299) (lv' := [some (eR 1), some (eR 64), some (eR 98), some (eI (i))]) (st' := [eI (i + 1), eR 1, eR 98]) rfl (congrArg (fun q : Int => (some ([some (eR 1), some (eR 64), some (eR 98), some (eI (i))], eI q :: [eR 1, eR 98]) : Option (List (Option eV) × List eV))) w21) rfl ?_
  refine w_al (np := 300) (v := ρ (i + 1).toNat) rfl rfl (lw_sc hL (by omega) (by omega)) ?_
  refine w_cw (np := 303) (as := [eI (ρ (i + 1).toNat)]) (l2 := [some (eR 98), some (eI (ρ (i + 1).toNat))]) (rest := []) rfl rfl rfl (Nat.ble_eq.mp rfl) rfl rfl rfl (I8.kd g18 (by decide) (n := 69) rfl) rfl ?_
  refine s_257 (a1 := ρ (i + 1).toNat) I8 g18 (hρ _) p15.1 p15.2.1 p15.2.2.1 p15.2.2.2.1 p15.2.2.2.2.1 p15.2.2.2.2.2.1 p15.2.2.2.2.2.2.1 p15.2.2.2.2.2.2.2 ?_
  intro m32 v22 I33 F34 b23 p24 p25 p26 p27 p28 p29 p30 p31
  have p35 : RP g2 m32 := ⟨p24, p25, p26, p27, p28, p29, p30, p31⟩
  have b36 := HB.fr b19 g17 F34 rfl
  have e37 : m32.1 64 10 = m3.1 64 10 := F34.k rfl g17 (by decide) rfl
  show ex_q (dt_fg L ρ) rc (d + 14, (0, 303, [some (eR 1), some (eR 64), some (eR 98), some (eI (i))], [eI v22]), F, m32)
  refine w_s (np := 304) (lv' := [some (eR 1), some (eR 64), some (eR 98), some (eI (i))]) (st' := []) rfl rfl rfl ?_
  refine w_go (t1 := 1788) rfl rfl ?_
  exact K g2 m32 P7 I33 p35 b36 (by have h0z := F9.1; have h1z := F34.1; omega) (Or.inl ⟨(by have h0z := F9.2.1; have h1z := F34.2.1; omega), fun q => (by rw [e37, e20]; exact q)⟩)
theorem o_3 {L : Nat} {ρ : Nat → Int} {rc : eQ} {d : Nat} {F : List eFr} {μ : eM} {g : Nat → Nat} {i : Int} (hL : L ≤ 4096) (hρ : ∀ j, -2147483648 ≤ ρ j ∧ ρ j ≤ 2147483647) (hi : 0 ≤ i ∧ i + 8 ≤ (L : Int)) (hI : SI g μ) (g64 : g 64 = 1) (g98 : g 98 = 52) (hP : RP g μ) (hB : HB g μ 64) (K : ∀ (g2 : Nat → Nat) (m : eM), GP g g2 → SI g2 m → RP g2 m → HB g2 m 64 → m.2.1.length ≤ μ.2.1.length + 250 → (m.2.2 ≤ μ.2.2 + 10281 ∧ (μ.1 64 10 ≠ 0 → m.1 64 10 ≠ 0) ∨ μ.1 64 10 = 0 ∧ m.1 64 10 ≠ 0 ∧ m.2.2 ≤ μ.2.2 + 19700) → ex_q (dt_fg L ρ) rc (d + 14, (0, 1788, [some (eR 1), some (eR 64), some (eR 98), some (eI (i))], []), F, m)) : ex_q (dt_fg L ρ) rc (d + 14, (0, 307, [some (eR 1), some (eR 64), some (eR 98), some (eI (i))], []), F, μ) := by
  refine w_s (np := 308) (lv' := [some (eR 1), some (eR 64), some (eR 98), some (eI (i))]) (st' := [eR 64]) rfl rfl rfl ?_
  refine w_s (np := 309) (lv' := [some (eR 1), some (eR 64), some (eR 98), some (eI (i))]) (st' := [eR 1, eR 64]) rfl rfl rfl ?_
  refine w_s (np := 310) (lv' := [some (eR 1), some (eR 64), some (eR 98), some (eI (i))]) (st' := [eI (i), eR 1, eR 64]) rfl rfl rfl ?_
  refine w_s (np := 311) (lv' := [some (eR 1), some (eR 64), some (eR 98), some (eI (i))]) (st' := [eI (1), eI (i), eR 1, eR 64]) rfl rfl rfl ?_
  have w1 : ev_w (i + 1) = (i + 1) := ev_w_in (by omega) (by omega)
  refine w_s (np := 312) (lv' := [some (eR 1), some (eR 64), some (eR 98), some (eI (i))]) (st' := [eI (i + 1), eR 1, eR 64]) rfl (congrArg (fun q : Int => (some ([some (eR 1), some (eR 64), some (eR 98), some (eI (i))], eI q :: [eR 1, eR 64]) : Option (List (Option eV) × List eV))) w1) rfl ?_
  refine w_al (np := 313) (v := ρ (i + 1).toNat) rfl rfl (lw_sc hL (by omega) (by omega)) ?_
  refine w_cw (np := 316) (as := [eI (ρ (i + 1).toNat)]) (l2 := [some (eR 64), some (eI (ρ (i + 1).toNat))]) (rest := []) rfl rfl rfl (Nat.ble_eq.mp rfl) rfl rfl rfl (hI.kd g64 (by decide) (n := 14) rfl) rfl ?_
  refine s_158 (a1 := ρ (i + 1).toNat) hI g64 (hρ _)  ?_
  intro g4 m5 v2 E6 I7 F8 b3
  have p9 := RP.fr hP F8 rfl
  have b10 := HB.fr hB g64 F8 rfl
  have G15 := E6.p
  have p13 := p9.go I7 G15
  have b14 := b10.go G15
  have g11 : g4 64 = 1 := E6.g g64 (by decide)
  have g12 : g4 98 = 52 := E6.g g98 (by decide)
  have e16 : m5.1 64 10 = μ.1 64 10 := F8.k rfl g64 (by decide) rfl
  show ex_q (dt_fg L ρ) rc (d + 14, (0, 316, [some (eR 1), some (eR 64), some (eR 98), some (eI (i))], [eI v2]), F, m5)
  refine w_s (np := 317) (lv' := [some (eR 1), some (eR 64), some (eR 98), some (eI (i))]) (st' := []) rfl rfl rfl ?_
  refine w_s (np := 318) (lv' := [some (eR 1), some (eR 64), some (eR 98), some (eI (i))]) (st' := [eR 98]) rfl rfl rfl ?_
  refine w_s (np := 319) (lv' := [some (eR 1), some (eR 64), some (eR 98), some (eI (i))]) (st' := [eR 1, eR 98]) rfl rfl rfl ?_
  refine w_s (np := 320) (lv' := [some (eR 1), some (eR 64), some (eR 98), some (eI (i))]) (st' := [eI (i), eR 1, eR 98]) rfl rfl rfl ?_
  refine w_s (np := 321) (lv' := [some (eR 1), some (eR 64), some (eR 98), some (eI (i))]) (st' := [eI (1), eI (i), eR 1, eR 98]) rfl rfl rfl ?_
  have w17 : ev_w (i + 1) = (i + 1) := ev_w_in (by omega) (by omega)
  refine w_s (np := 322) (lv' := [some (eR 1), some (eR 64), some (eR 98), some (eI (i))]) (st' := [eI (i + 1), eR 1, eR 98]) rfl (congrArg (fun q : Int => (some ([some (eR 1), some (eR 64), some (eR 98), some (eI (i))], eI q :: [eR 1, eR 98]) : Option (List (Option eV) × List eV))) w17) rfl ?_
  refine w_al (np := 323) (v := ρ (i + 1).toNat) rfl rfl (lw_sc hL (by omega) (by omega)) ?_
  refine w_cw (np := 326) (as := [eI (ρ (i + 1).toNat)]) (l2 := [some (eR 98), some (eI (ρ (i + 1).toNat))]) (rest := []) rfl rfl rfl (Nat.ble_eq.mp rfl) rfl rfl rfl (I7.kd g12 (by decide) (n := 69) rfl) rfl ?_
  refine s_261 (a1 := ρ (i + 1).toNat) I7 g12 (hρ _) p13.2.1 ?_
  intro m20 v18 I21 F22 b19
  have p23 : RP g4 m20 := RP.fr p13 F22 rfl
  have b24 := HB.fr b14 g11 F22 rfl
  have e25 : m20.1 64 10 = m5.1 64 10 := F22.k rfl g11 (by decide) rfl
  show ex_q (dt_fg L ρ) rc (d + 14, (0, 326, [some (eR 1), some (eR 64), some (eR 98), some (eI (i))], [eI v18]), F, m20)
  refine w_s (np := 327) (lv' := [some (eR 1), some (eR 64), some (eR 98), some (eI (i))]) (st' := []) rfl rfl rfl ?_
  refine w_go (t1 := 1788) rfl rfl ?_
  exact K g4 m20 G15 I21 p23 b24 (by have h0z := F8.1; have h1z := F22.1; omega) (Or.inl ⟨(by have h0z := F8.2.1; have h1z := F22.2.1; omega), fun q => (by rw [e25, e16]; exact q)⟩)
theorem o_4 {L : Nat} {ρ : Nat → Int} {rc : eQ} {d : Nat} {F : List eFr} {μ : eM} {g : Nat → Nat} {i : Int} (hL : L ≤ 4096) (hρ : ∀ j, -2147483648 ≤ ρ j ∧ ρ j ≤ 2147483647) (hi : 0 ≤ i ∧ i + 8 ≤ (L : Int)) (hI : SI g μ) (g64 : g 64 = 1) (g98 : g 98 = 52) (hP : RP g μ) (hB : HB g μ 64) (K : ∀ (g2 : Nat → Nat) (m : eM), GP g g2 → SI g2 m → RP g2 m → HB g2 m 64 → m.2.1.length ≤ μ.2.1.length + 250 → (m.2.2 ≤ μ.2.2 + 10281 ∧ (μ.1 64 10 ≠ 0 → m.1 64 10 ≠ 0) ∨ μ.1 64 10 = 0 ∧ m.1 64 10 ≠ 0 ∧ m.2.2 ≤ μ.2.2 + 19700) → ex_q (dt_fg L ρ) rc (d + 14, (0, 1788, [some (eR 1), some (eR 64), some (eR 98), some (eI (i))], []), F, m)) : ex_q (dt_fg L ρ) rc (d + 14, (0, 330, [some (eR 1), some (eR 64), some (eR 98), some (eI (i))], []), F, μ) := by
  refine w_s (np := 331) (lv' := [some (eR 1), some (eR 64), some (eR 98), some (eI (i))]) (st' := [eR 64]) rfl rfl rfl ?_
  refine w_s (np := 332) (lv' := [some (eR 1), some (eR 64), some (eR 98), some (eI (i))]) (st' := [eR 1, eR 64]) rfl rfl rfl ?_
  refine w_s (np := 333) (lv' := [some (eR 1), some (eR 64), some (eR 98), some (eI (i))]) (st' := [eI (i), eR 1, eR 64]) rfl rfl rfl ?_
  refine w_s (np := 334) (lv' := [some (eR 1), some (eR 64), some (eR 98), some (eI (i))]) (st' := [eI (1), eI (i), eR 1, eR 64]) rfl rfl rfl ?_
  have w1 : ev_w (i + 1) = (i + 1) := ev_w_in (by omega) (by omega)
  refine w_s (np := 335) (lv' := [some (eR 1), some (eR 64), some (eR 98), some (eI (i))]) (st' := [eI (i + 1), eR 1, eR 64]) rfl (congrArg (fun q : Int => (some ([some (eR 1), some (eR 64), some (eR 98), some (eI (i))], eI q :: [eR 1, eR 64]) : Option (List (Option eV) × List eV))) w1) rfl ?_
  refine w_al (np := 336) (v := ρ (i + 1).toNat) rfl rfl (lw_sc hL (by omega) (by omega)) ?_
  refine w_s (np := 337) (lv' := [some (eR 1), some (eR 64), some (eR 98), some (eI (i))]) (st' := [eR 1, eI (ρ (i + 1).toNat), eR 64]) rfl rfl rfl ?_
  refine w_s (np := 338) (lv' := [some (eR 1), some (eR 64), some (eR 98), some (eI (i))]) (st' := [eI (i), eR 1, eI (ρ (i + 1).toNat), eR 64]) rfl rfl rfl ?_
  refine w_s (np := 339) (lv' := [some (eR 1), some (eR 64), some (eR 98), some (eI (i))]) (st' := [eI (2), eI (i), eR 1, eI (ρ (i + 1).toNat), eR 64]) rfl rfl rfl ?_
  have w2 : ev_w (i + 2) = (i + 2) := ev_w_in (by omega) (by omega)
  refine w_s (np := 340) (lv' := [some (eR 1), some (eR 64), some (eR 98), some (eI (i))]) (st' := [eI (i + 2), eR 1, eI (ρ (i + 1).toNat), eR 64]) rfl (congrArg (fun q : Int => (some ([some (eR 1), some (eR 64), some (eR 98), some (eI (i))], eI q :: [eR 1, eI (ρ (i + 1).toNat), eR 64]) : Option (List (Option eV) × List eV))) w2) rfl ?_
  refine w_al (np := 341) (v := ρ (i + 2).toNat) rfl rfl (lw_sc hL (by omega) (by omega)) ?_
  refine w_cw (np := 344) (as := [eI (ρ (i + 1).toNat), eI (ρ (i + 2).toNat)]) (l2 := [some (eR 64), some (eI (ρ (i + 1).toNat)), some (eI (ρ (i + 2).toNat))]) (rest := []) rfl rfl rfl (Nat.ble_eq.mp rfl) rfl rfl rfl (hI.kd g64 (by decide) (n := 14) rfl) rfl ?_
  refine s_159 (a1 := ρ (i + 1).toNat) (a2 := ρ (i + 2).toNat) hI g64 (hρ _) (hρ _)  ?_
  intro g5 m6 v3 E7 I8 F9 b4
  have p10 := RP.fr hP F9 rfl
  have b11 := HB.fr hB g64 F9 rfl
  have G16 := E7.p
  have p14 := p10.go I8 G16
  have b15 := b11.go G16
  have g12 : g5 64 = 1 := E7.g g64 (by decide)
  have g13 : g5 98 = 52 := E7.g g98 (by decide)
  have e17 : m6.1 64 10 = μ.1 64 10 := F9.k rfl g64 (by decide) rfl
  show ex_q (dt_fg L ρ) rc (d + 14, (0, 344, [some (eR 1), some (eR 64), some (eR 98), some (eI (i))], [eI v3]), F, m6)
  refine w_s (np := 345) (lv' := [some (eR 1), some (eR 64), some (eR 98), some (eI (i))]) (st' := []) rfl rfl rfl ?_
  refine w_s (np := 346) (lv' := [some (eR 1), some (eR 64), some (eR 98), some (eI (i))]) (st' := [eR 98]) rfl rfl rfl ?_
  refine w_s (np := 347) (lv' := [some (eR 1), some (eR 64), some (eR 98), some (eI (i))]) (st' := [eR 1, eR 98]) rfl rfl rfl ?_
  refine w_s (np := 348) (lv' := [some (eR 1), some (eR 64), some (eR 98), some (eI (i))]) (st' := [eI (i), eR 1, eR 98]) rfl rfl rfl ?_
  refine w_s (np := 349) (lv' := [some (eR 1), some (eR 64), some (eR 98), some (eI (i))]) (st' := [eI (1), eI (i), eR 1, eR 98]) rfl rfl rfl ?_
  have w18 : ev_w (i + 1) = (i + 1) := ev_w_in (by omega) (by omega)
  refine w_s (np := 350) (lv' := [some (eR 1), some (eR 64), some (eR 98), some (eI (i))]) (st' := [eI (i + 1), eR 1, eR 98]) rfl (congrArg (fun q : Int => (some ([some (eR 1), some (eR 64), some (eR 98), some (eI (i))], eI q :: [eR 1, eR 98]) : Option (List (Option eV) × List eV))) w18) rfl ?_
  refine w_al (np := 351) (v := ρ (i + 1).toNat) rfl rfl (lw_sc hL (by omega) (by omega)) ?_
  refine w_s (np := 352) (lv' := [some (eR 1), some (eR 64), some (eR 98), some (eI (i))]) (st' := [eR 1, eI (ρ (i + 1).toNat), eR 98]) rfl rfl rfl ?_
  refine w_s (np := 353) (lv' := [some (eR 1), some (eR 64), some (eR 98), some (eI (i))]) (st' := [eI (i), eR 1, eI (ρ (i + 1).toNat), eR 98]) rfl rfl rfl ?_
  refine w_s (np := 354) (lv' := [some (eR 1), some (eR 64), some (eR 98), some (eI (i))]) (st' := [eI (2), eI (i), eR 1, eI (ρ (i + 1).toNat), eR 98]) rfl rfl rfl ?_
  have w19 : ev_w (i + 2) = (i + 2) := ev_w_in (by omega) (by omega)
  refine w_s (np := 355) (lv' := [some (eR 1), some (eR 64), some (eR 98), some (eI (i))]) (st' := [eI (i + 2), eR 1, eI (ρ (i + 1).toNat), eR 98]) rfl (congrArg (fun q : Int => (some ([some (eR 1), some (eR 64), some (eR 98), some (eI (i))], eI q :: [eR 1, eI (ρ (i + 1).toNat), eR 98]) : Option (List (Option eV) × List eV))) w19) rfl ?_
  refine w_al (np := 356) (v := ρ (i + 2).toNat) rfl rfl (lw_sc hL (by omega) (by omega)) ?_
  refine w_cw (np := 359) (as := [eI (ρ (i + 1).toNat), eI (ρ (i + 2).toNat)]) (l2 := [some (eR 98), some (eI (ρ (i + 1).toNat)), some (eI (ρ (i + 2).toNat))]) (rest := []) rfl rfl rfl (Nat.ble_eq.mp rfl) rfl rfl rfl (I8.kd g13 (by decide) (n := 69) rfl) rfl ?_
  refine s_262 (a1 := ρ (i + 1).toNat) (a2 := ρ (i + 2).toNat) I8 g13 (hρ _) (hρ _)  ?_
  intro m22 v20 I23 F24 b21
  have p25 : RP g5 m22 := RP.fr p14 F24 rfl
  have b26 := HB.fr b15 g12 F24 rfl
  have e27 : m22.1 64 10 = m6.1 64 10 := F24.k rfl g12 (by decide) rfl
  show ex_q (dt_fg L ρ) rc (d + 14, (0, 359, [some (eR 1), some (eR 64), some (eR 98), some (eI (i))], [eI v20]), F, m22)
  refine w_s (np := 360) (lv' := [some (eR 1), some (eR 64), some (eR 98), some (eI (i))]) (st' := []) rfl rfl rfl ?_
  refine w_go (t1 := 1788) rfl rfl ?_
  exact K g5 m22 G16 I23 p25 b26 (by have h0z := F9.1; have h1z := F24.1; omega) (Or.inl ⟨(by have h0z := F9.2.1; have h1z := F24.2.1; omega), fun q => (by rw [e27, e17]; exact q)⟩)
theorem o_5 {L : Nat} {ρ : Nat → Int} {rc : eQ} {d : Nat} {F : List eFr} {μ : eM} {g : Nat → Nat} {i : Int} (hL : L ≤ 4096) (hρ : ∀ j, -2147483648 ≤ ρ j ∧ ρ j ≤ 2147483647) (hi : 0 ≤ i ∧ i + 8 ≤ (L : Int)) (hI : SI g μ) (g64 : g 64 = 1) (g98 : g 98 = 52) (hP : RP g μ) (hB : HB g μ 64) (K : ∀ (g2 : Nat → Nat) (m : eM), GP g g2 → SI g2 m → RP g2 m → HB g2 m 64 → m.2.1.length ≤ μ.2.1.length + 250 → (m.2.2 ≤ μ.2.2 + 10281 ∧ (μ.1 64 10 ≠ 0 → m.1 64 10 ≠ 0) ∨ μ.1 64 10 = 0 ∧ m.1 64 10 ≠ 0 ∧ m.2.2 ≤ μ.2.2 + 19700) → ex_q (dt_fg L ρ) rc (d + 14, (0, 1788, [some (eR 1), some (eR 64), some (eR 98), some (eI (i))], []), F, m)) : ex_q (dt_fg L ρ) rc (d + 14, (0, 363, [some (eR 1), some (eR 64), some (eR 98), some (eI (i))], []), F, μ) := by
  refine w_s (np := 364) (lv' := [some (eR 1), some (eR 64), some (eR 98), some (eI (i))]) (st' := [eR 64]) rfl rfl rfl ?_
  refine w_s (np := 365) (lv' := [some (eR 1), some (eR 64), some (eR 98), some (eI (i))]) (st' := [eR 1, eR 64]) rfl rfl rfl ?_
  refine w_s (np := 366) (lv' := [some (eR 1), some (eR 64), some (eR 98), some (eI (i))]) (st' := [eI (i), eR 1, eR 64]) rfl rfl rfl ?_
  refine w_s (np := 367) (lv' := [some (eR 1), some (eR 64), some (eR 98), some (eI (i))]) (st' := [eI (1), eI (i), eR 1, eR 64]) rfl rfl rfl ?_
  have w1 : ev_w (i + 1) = (i + 1) := ev_w_in (by omega) (by omega)
  refine w_s (np := 368) (lv' := [some (eR 1), some (eR 64), some (eR 98), some (eI (i))]) (st' := [eI (i + 1), eR 1, eR 64]) rfl (congrArg (fun q : Int => (some ([some (eR 1), some (eR 64), some (eR 98), some (eI (i))], eI q :: [eR 1, eR 64]) : Option (List (Option eV) × List eV))) w1) rfl ?_
  refine w_al (np := 369) (v := ρ (i + 1).toNat) rfl rfl (lw_sc hL (by omega) (by omega)) ?_
  refine w_s (np := 370) (lv' := [some (eR 1), some (eR 64), some (eR 98), some (eI (i))]) (st' := [eR 1, eI (ρ (i + 1).toNat), eR 64]) rfl rfl rfl ?_
  refine w_s (np := 371) (lv' := [some (eR 1), some (eR 64), some (eR 98), some (eI (i))]) (st' := [eI (i), eR 1, eI (ρ (i + 1).toNat), eR 64]) rfl rfl rfl ?_
  refine w_s (np := 372) (lv' := [some (eR 1), some (eR 64), some (eR 98), some (eI (i))]) (st' := [eI (2), eI (i), eR 1, eI (ρ (i + 1).toNat), eR 64]) rfl rfl rfl ?_
  have w2 : ev_w (i + 2) = (i + 2) := ev_w_in (by omega) (by omega)
  refine w_s (np := 373) (lv' := [some (eR 1), some (eR 64), some (eR 98), some (eI (i))]) (st' := [eI (i + 2), eR 1, eI (ρ (i + 1).toNat), eR 64]) rfl (congrArg (fun q : Int => (some ([some (eR 1), some (eR 64), some (eR 98), some (eI (i))], eI q :: [eR 1, eI (ρ (i + 1).toNat), eR 64]) : Option (List (Option eV) × List eV))) w2) rfl ?_
  refine w_al (np := 374) (v := ρ (i + 2).toNat) rfl rfl (lw_sc hL (by omega) (by omega)) ?_
  refine w_s (np := 375) (lv' := [some (eR 1), some (eR 64), some (eR 98), some (eI (i))]) (st' := [eR 1, eI (ρ (i + 2).toNat), eI (ρ (i + 1).toNat), eR 64]) rfl rfl rfl ?_
  refine w_s (np := 376) (lv' := [some (eR 1), some (eR 64), some (eR 98), some (eI (i))]) (st' := [eI (i), eR 1, eI (ρ (i + 2).toNat), eI (ρ (i + 1).toNat), eR 64]) rfl rfl rfl ?_
  refine w_s (np := 377) (lv' := [some (eR 1), some (eR 64), some (eR 98), some (eI (i))]) (st' := [eI (3), eI (i), eR 1, eI (ρ (i + 2).toNat), eI (ρ (i + 1).toNat), eR 64]) rfl rfl rfl ?_
  have w3 : ev_w (i + 3) = (i + 3) := ev_w_in (by omega) (by omega)
  refine w_s (np := 378) (lv' := [some (eR 1), some (eR 64), some (eR 98), some (eI (i))]) (st' := [eI (i + 3), eR 1, eI (ρ (i + 2).toNat), eI (ρ (i + 1).toNat), eR 64]) rfl (congrArg (fun q : Int => (some ([some (eR 1), some (eR 64), some (eR 98), some (eI (i))], eI q :: [eR 1, eI (ρ (i + 2).toNat), eI (ρ (i + 1).toNat), eR 64]) : Option (List (Option eV) × List eV))) w3) rfl ?_
  refine w_al (np := 379) (v := ρ (i + 3).toNat) rfl rfl (lw_sc hL (by omega) (by omega)) ?_
  refine w_cw (np := 382) (as := [eI (ρ (i + 1).toNat), eI (ρ (i + 2).toNat), eI (ρ (i + 3).toNat)]) (l2 := [some (eR 64), some (eI (ρ (i + 1).toNat)), some (eI (ρ (i + 2).toNat)), some (eI (ρ (i + 3).toNat))]) (rest := []) rfl rfl rfl (Nat.ble_eq.mp rfl) rfl rfl rfl (hI.kd g64 (by decide) (n := 14) rfl) rfl ?_
  refine s_160 (a1 := ρ (i + 1).toNat) (a2 := ρ (i + 2).toNat) (a3 := ρ (i + 3).toNat) hI g64 (hρ _) (hρ _) (hρ _)  ?_
  intro m6 v4 I7 F8 b5
  have p9 : RP g m6 := RP.fr hP F8 rfl
  have b10 := HB.fr hB g64 F8 rfl
  have e11 : m6.1 64 10 = μ.1 64 10 := F8.k rfl g64 (by decide) rfl
  show ex_q (dt_fg L ρ) rc (d + 14, (0, 382, [some (eR 1), some (eR 64), some (eR 98), some (eI (i))], [eI v4]), F, m6)
  refine w_s (np := 383) (lv' := [some (eR 1), some (eR 64), some (eR 98), some (eI (i))]) (st' := []) rfl rfl rfl ?_
  refine w_s (np := 384) (lv' := [some (eR 1), some (eR 64), some (eR 98), some (eI (i))]) (st' := [eR 98]) rfl rfl rfl ?_
  refine w_s (np := 385) (lv' := [some (eR 1), some (eR 64), some (eR 98), some (eI (i))]) (st' := [eR 1, eR 98]) rfl rfl rfl ?_
  refine w_s (np := 386) (lv' := [some (eR 1), some (eR 64), some (eR 98), some (eI (i))]) (st' := [eI (i), eR 1, eR 98]) rfl rfl rfl ?_
  refine w_s (np := 387) (lv' := [some (eR 1), some (eR 64), some (eR 98), some (eI (i))]) (st' := [eI (1), eI (i), eR 1, eR 98]) rfl rfl rfl ?_
  have w12 : ev_w (i + 1) = (i + 1) := ev_w_in (by omega) (by omega)
  refine w_s (np := 388) (lv' := [some (eR 1), some (eR 64), some (eR 98), some (eI (i))]) (st' := [eI (i + 1), eR 1, eR 98]) rfl (congrArg (fun q : Int => (some ([some (eR 1), some (eR 64), some (eR 98), some (eI (i))], eI q :: [eR 1, eR 98]) : Option (List (Option eV) × List eV))) w12) rfl ?_
  refine w_al (np := 389) (v := ρ (i + 1).toNat) rfl rfl (lw_sc hL (by omega) (by omega)) ?_
  refine w_s (np := 390) (lv' := [some (eR 1), some (eR 64), some (eR 98), some (eI (i))]) (st' := [eR 1, eI (ρ (i + 1).toNat), eR 98]) rfl rfl rfl ?_
  refine w_s (np := 391) (lv' := [some (eR 1), some (eR 64), some (eR 98), some (eI (i))]) (st' := [eI (i), eR 1, eI (ρ (i + 1).toNat), eR 98]) rfl rfl rfl ?_
  refine w_s (np := 392) (lv' := [some (eR 1), some (eR 64), some (eR 98), some (eI (i))]) (st' := [eI (2), eI (i), eR 1, eI (ρ (i + 1).toNat), eR 98]) rfl rfl rfl ?_
  have w13 : ev_w (i + 2) = (i + 2) := ev_w_in (by omega) (by omega)
  refine w_s (np := 393) (lv' := [some (eR 1), some (eR 64), some (eR 98), some (eI (i))]) (st' := [eI (i + 2), eR 1, eI (ρ (i + 1).toNat), eR 98]) rfl (congrArg (fun q : Int => (some ([some (eR 1), some (eR 64), some (eR 98), some (eI (i))], eI q :: [eR 1, eI (ρ (i + 1).toNat), eR 98]) : Option (List (Option eV) × List eV))) w13) rfl ?_
  refine w_al (np := 394) (v := ρ (i + 2).toNat) rfl rfl (lw_sc hL (by omega) (by omega)) ?_
  refine w_s (np := 395) (lv' := [some (eR 1), some (eR 64), some (eR 98), some (eI (i))]) (st' := [eR 1, eI (ρ (i + 2).toNat), eI (ρ (i + 1).toNat), eR 98]) rfl rfl rfl ?_
  refine w_s (np := 396) (lv' := [some (eR 1), some (eR 64), some (eR 98), some (eI (i))]) (st' := [eI (i), eR 1, eI (ρ (i + 2).toNat), eI (ρ (i + 1).toNat), eR 98]) rfl rfl rfl ?_
  refine w_s (np := 397) (lv' := [some (eR 1), some (eR 64), some (eR 98), some (eI (i))]) (st' := [eI (3), eI (i), eR 1, eI (ρ (i + 2).toNat), eI (ρ (i + 1).toNat), eR 98]) rfl rfl rfl ?_
  have w14 : ev_w (i + 3) = (i + 3) := ev_w_in (by omega) (by omega)
  refine w_s (np := 398) (lv' := [some (eR 1), some (eR 64), some (eR 98), some (eI (i))]) (st' := [eI (i + 3), eR 1, eI (ρ (i + 2).toNat), eI (ρ (i + 1).toNat), eR 98]) rfl (congrArg (fun q : Int => (some ([some (eR 1), some (eR 64), some (eR 98), some (eI (i))], eI q :: [eR 1, eI (ρ (i + 2).toNat), eI (ρ (i + 1).toNat), eR 98]) : Option (List (Option eV) × List eV))) w14) rfl ?_
  refine w_al (np := 399) (v := ρ (i + 3).toNat) rfl rfl (lw_sc hL (by omega) (by omega)) ?_
  refine w_cw (np := 402) (as := [eI (ρ (i + 1).toNat), eI (ρ (i + 2).toNat), eI (ρ (i + 3).toNat)]) (l2 := [some (eR 98), some (eI (ρ (i + 1).toNat)), some (eI (ρ (i + 2).toNat)), some (eI (ρ (i + 3).toNat))]) (rest := []) rfl rfl rfl (Nat.ble_eq.mp rfl) rfl rfl rfl (I7.kd g98 (by decide) (n := 69) rfl) rfl ?_
  refine s_263 (a1 := ρ (i + 1).toNat) (a2 := ρ (i + 2).toNat) (a3 := ρ (i + 3).toNat) I7 g98 (hρ _) (hρ _) (hρ _)  ?_
  intro m17 v15 I18 F19 b16
  have p20 : RP g m17 := RP.fr p9 F19 rfl
  have b21 := HB.fr b10 g64 F19 rfl
  have e22 : m17.1 64 10 = m6.1 64 10 := F19.k rfl g64 (by decide) rfl
  show ex_q (dt_fg L ρ) rc (d + 14, (0, 402, [some (eR 1), some (eR 64), some (eR 98), some (eI (i))], [eI v15]), F, m17)
  refine w_s (np := 403) (lv' := [some (eR 1), some (eR 64), some (eR 98), some (eI (i))]) (st' := []) rfl rfl rfl ?_
  refine w_go (t1 := 1788) rfl rfl ?_
  exact K g m17 (GP.r hI.1) I18 p20 b21 (by have h0z := F8.1; have h1z := F19.1; omega) (Or.inl ⟨(by have h0z := F8.2.1; have h1z := F19.2.1; omega), fun q => (by rw [e22, e11]; exact q)⟩)
theorem o_6 {L : Nat} {ρ : Nat → Int} {rc : eQ} {d : Nat} {F : List eFr} {μ : eM} {g : Nat → Nat} {i : Int} (hL : L ≤ 4096) (hρ : ∀ j, -2147483648 ≤ ρ j ∧ ρ j ≤ 2147483647) (hi : 0 ≤ i ∧ i + 8 ≤ (L : Int)) (hI : SI g μ) (g64 : g 64 = 1) (g98 : g 98 = 52) (hP : RP g μ) (hB : HB g μ 64) (K : ∀ (g2 : Nat → Nat) (m : eM), GP g g2 → SI g2 m → RP g2 m → HB g2 m 64 → m.2.1.length ≤ μ.2.1.length + 250 → (m.2.2 ≤ μ.2.2 + 10281 ∧ (μ.1 64 10 ≠ 0 → m.1 64 10 ≠ 0) ∨ μ.1 64 10 = 0 ∧ m.1 64 10 ≠ 0 ∧ m.2.2 ≤ μ.2.2 + 19700) → ex_q (dt_fg L ρ) rc (d + 14, (0, 1788, [some (eR 1), some (eR 64), some (eR 98), some (eI (i))], []), F, m)) : ex_q (dt_fg L ρ) rc (d + 14, (0, 406, [some (eR 1), some (eR 64), some (eR 98), some (eI (i))], []), F, μ) := by
  refine w_s (np := 407) (lv' := [some (eR 1), some (eR 64), some (eR 98), some (eI (i))]) (st' := [eR 64]) rfl rfl rfl ?_
  refine w_s (np := 408) (lv' := [some (eR 1), some (eR 64), some (eR 98), some (eI (i))]) (st' := [eR 1, eR 64]) rfl rfl rfl ?_
  refine w_s (np := 409) (lv' := [some (eR 1), some (eR 64), some (eR 98), some (eI (i))]) (st' := [eI (i), eR 1, eR 64]) rfl rfl rfl ?_
  refine w_s (np := 410) (lv' := [some (eR 1), some (eR 64), some (eR 98), some (eI (i))]) (st' := [eI (1), eI (i), eR 1, eR 64]) rfl rfl rfl ?_
  have w1 : ev_w (i + 1) = (i + 1) := ev_w_in (by omega) (by omega)
  refine w_s (np := 411) (lv' := [some (eR 1), some (eR 64), some (eR 98), some (eI (i))]) (st' := [eI (i + 1), eR 1, eR 64]) rfl (congrArg (fun q : Int => (some ([some (eR 1), some (eR 64), some (eR 98), some (eI (i))], eI q :: [eR 1, eR 64]) : Option (List (Option eV) × List eV))) w1) rfl ?_
  refine w_al (np := 412) (v := ρ (i + 1).toNat) rfl rfl (lw_sc hL (by omega) (by omega)) ?_
  refine w_cw (np := 415) (as := [eI (ρ (i + 1).toNat)]) (l2 := [some (eR 64), some (eI (ρ (i + 1).toNat))]) (rest := []) rfl rfl rfl (Nat.ble_eq.mp rfl) rfl rfl rfl (hI.kd g64 (by decide) (n := 14) rfl) rfl ?_
  refine s_161 (a1 := ρ (i + 1).toNat) hI g64 (hρ _)  ?_
  intro m4 v2 I5 F6 b3
  have p7 : RP g m4 := RP.fr hP F6 rfl
  have b8 := HB.fr hB g64 F6 rfl
  have e9 : m4.1 64 10 = μ.1 64 10 := F6.k rfl g64 (by decide) rfl
  show ex_q (dt_fg L ρ) rc (d + 14, (0, 415, [some (eR 1), some (eR 64), some (eR 98), some (eI (i))], [eI v2]), F, m4)
  refine w_s (np := 416) (lv' := [some (eR 1), some (eR 64), some (eR 98), some (eI (i))]) (st' := []) rfl rfl rfl ?_
  refine w_s (np := 417) (lv' := [some (eR 1), some (eR 64), some (eR 98), some (eI (i))]) (st' := [eR 98]) rfl rfl rfl ?_
  refine w_s (np := 418) (lv' := [some (eR 1), some (eR 64), some (eR 98), some (eI (i))]) (st' := [eR 1, eR 98]) rfl rfl rfl ?_
  refine w_s (np := 419) (lv' := [some (eR 1), some (eR 64), some (eR 98), some (eI (i))]) (st' := [eI (i), eR 1, eR 98]) rfl rfl rfl ?_
  refine w_s (np := 420) (lv' := [some (eR 1), some (eR 64), some (eR 98), some (eI (i))]) (st' := [eI (1), eI (i), eR 1, eR 98]) rfl rfl rfl ?_
  have w10 : ev_w (i + 1) = (i + 1) := ev_w_in (by omega) (by omega)
  refine w_s (np := 421) (lv' := [some (eR 1), some (eR 64), some (eR 98), some (eI (i))]) (st' := [eI (i + 1), eR 1, eR 98]) rfl (congrArg (fun q : Int => (some ([some (eR 1), some (eR 64), some (eR 98), some (eI (i))], eI q :: [eR 1, eR 98]) : Option (List (Option eV) × List eV))) w10) rfl ?_
  refine w_al (np := 422) (v := ρ (i + 1).toNat) rfl rfl (lw_sc hL (by omega) (by omega)) ?_
  refine w_cw (np := 425) (as := [eI (ρ (i + 1).toNat)]) (l2 := [some (eR 98), some (eI (ρ (i + 1).toNat)), none]) (rest := []) rfl rfl rfl (Nat.ble_eq.mp rfl) rfl rfl rfl (I5.kd g98 (by decide) (n := 69) rfl) rfl ?_
  refine s_264 (a1 := ρ (i + 1).toNat) I5 g98 (hρ _)  ?_
  intro m13 v11 I14 F15 b12
  have p16 : RP g m13 := RP.fr p7 F15 rfl
  have b17 := HB.fr b8 g64 F15 rfl
  have e18 : m13.1 64 10 = m4.1 64 10 := F15.k rfl g64 (by decide) rfl
  show ex_q (dt_fg L ρ) rc (d + 14, (0, 425, [some (eR 1), some (eR 64), some (eR 98), some (eI (i))], [eI v11]), F, m13)
  refine w_s (np := 426) (lv' := [some (eR 1), some (eR 64), some (eR 98), some (eI (i))]) (st' := []) rfl rfl rfl ?_
  refine w_go (t1 := 1788) rfl rfl ?_
  exact K g m13 (GP.r hI.1) I14 p16 b17 (by have h0z := F6.1; have h1z := F15.1; omega) (Or.inl ⟨(by have h0z := F6.2.1; have h1z := F15.2.1; omega), fun q => (by rw [e18, e9]; exact q)⟩)
theorem o_7 {L : Nat} {ρ : Nat → Int} {rc : eQ} {d : Nat} {F : List eFr} {μ : eM} {g : Nat → Nat} {i : Int} (hL : L ≤ 4096) (hρ : ∀ j, -2147483648 ≤ ρ j ∧ ρ j ≤ 2147483647) (hi : 0 ≤ i ∧ i + 8 ≤ (L : Int)) (hI : SI g μ) (g64 : g 64 = 1) (g98 : g 98 = 52) (hP : RP g μ) (hB : HB g μ 64) (K : ∀ (g2 : Nat → Nat) (m : eM), GP g g2 → SI g2 m → RP g2 m → HB g2 m 64 → m.2.1.length ≤ μ.2.1.length + 250 → (m.2.2 ≤ μ.2.2 + 10281 ∧ (μ.1 64 10 ≠ 0 → m.1 64 10 ≠ 0) ∨ μ.1 64 10 = 0 ∧ m.1 64 10 ≠ 0 ∧ m.2.2 ≤ μ.2.2 + 19700) → ex_q (dt_fg L ρ) rc (d + 14, (0, 1788, [some (eR 1), some (eR 64), some (eR 98), some (eI (i))], []), F, m)) : ex_q (dt_fg L ρ) rc (d + 14, (0, 429, [some (eR 1), some (eR 64), some (eR 98), some (eI (i))], []), F, μ) := by
  refine w_s (np := 430) (lv' := [some (eR 1), some (eR 64), some (eR 98), some (eI (i))]) (st' := [eR 64]) rfl rfl rfl ?_
  refine w_s (np := 431) (lv' := [some (eR 1), some (eR 64), some (eR 98), some (eI (i))]) (st' := [eR 1, eR 64]) rfl rfl rfl ?_
  refine w_s (np := 432) (lv' := [some (eR 1), some (eR 64), some (eR 98), some (eI (i))]) (st' := [eI (i), eR 1, eR 64]) rfl rfl rfl ?_
  refine w_s (np := 433) (lv' := [some (eR 1), some (eR 64), some (eR 98), some (eI (i))]) (st' := [eI (1), eI (i), eR 1, eR 64]) rfl rfl rfl ?_
  have w1 : ev_w (i + 1) = (i + 1) := ev_w_in (by omega) (by omega)
  refine w_s (np := 434) (lv' := [some (eR 1), some (eR 64), some (eR 98), some (eI (i))]) (st' := [eI (i + 1), eR 1, eR 64]) rfl (congrArg (fun q : Int => (some ([some (eR 1), some (eR 64), some (eR 98), some (eI (i))], eI q :: [eR 1, eR 64]) : Option (List (Option eV) × List eV))) w1) rfl ?_
  refine w_al (np := 435) (v := ρ (i + 1).toNat) rfl rfl (lw_sc hL (by omega) (by omega)) ?_
  refine w_s (np := 436) (lv' := [some (eR 1), some (eR 64), some (eR 98), some (eI (i))]) (st' := [eR 1, eI (ρ (i + 1).toNat), eR 64]) rfl rfl rfl ?_
  refine w_s (np := 437) (lv' := [some (eR 1), some (eR 64), some (eR 98), some (eI (i))]) (st' := [eI (i), eR 1, eI (ρ (i + 1).toNat), eR 64]) rfl rfl rfl ?_
  refine w_s (np := 438) (lv' := [some (eR 1), some (eR 64), some (eR 98), some (eI (i))]) (st' := [eI (2), eI (i), eR 1, eI (ρ (i + 1).toNat), eR 64]) rfl rfl rfl ?_
  have w2 : ev_w (i + 2) = (i + 2) := ev_w_in (by omega) (by omega)
  refine w_s (np := 439) (lv' := [some (eR 1), some (eR 64), some (eR 98), some (eI (i))]) (st' := [eI (i + 2), eR 1, eI (ρ (i + 1).toNat), eR 64]) rfl (congrArg (fun q : Int => (some ([some (eR 1), some (eR 64), some (eR 98), some (eI (i))], eI q :: [eR 1, eI (ρ (i + 1).toNat), eR 64]) : Option (List (Option eV) × List eV))) w2) rfl ?_
  refine w_al (np := 440) (v := ρ (i + 2).toNat) rfl rfl (lw_sc hL (by omega) (by omega)) ?_
  refine w_s (np := 441) (lv' := [some (eR 1), some (eR 64), some (eR 98), some (eI (i))]) (st' := [eR 1, eI (ρ (i + 2).toNat), eI (ρ (i + 1).toNat), eR 64]) rfl rfl rfl ?_
  refine w_s (np := 442) (lv' := [some (eR 1), some (eR 64), some (eR 98), some (eI (i))]) (st' := [eI (i), eR 1, eI (ρ (i + 2).toNat), eI (ρ (i + 1).toNat), eR 64]) rfl rfl rfl ?_
  refine w_s (np := 443) (lv' := [some (eR 1), some (eR 64), some (eR 98), some (eI (i))]) (st' := [eI (3), eI (i), eR 1, eI (ρ (i + 2).toNat), eI (ρ (i + 1).toNat), eR 64]) rfl rfl rfl ?_
  have w3 : ev_w (i + 3) = (i + 3) := ev_w_in (by omega) (by omega)
  refine w_s (np := 444) (lv' := [some (eR 1), some (eR 64), some (eR 98), some (eI (i))]) (st' := [eI (i + 3), eR 1, eI (ρ (i + 2).toNat), eI (ρ (i + 1).toNat), eR 64]) rfl (congrArg (fun q : Int => (some ([some (eR 1), some (eR 64), some (eR 98), some (eI (i))], eI q :: [eR 1, eI (ρ (i + 2).toNat), eI (ρ (i + 1).toNat), eR 64]) : Option (List (Option eV) × List eV))) w3) rfl ?_
  refine w_al (np := 445) (v := ρ (i + 3).toNat) rfl rfl (lw_sc hL (by omega) (by omega)) ?_
  refine w_s (np := 446) (lv' := [some (eR 1), some (eR 64), some (eR 98), some (eI (i))]) (st' := [eR 1, eI (ρ (i + 3).toNat), eI (ρ (i + 2).toNat), eI (ρ (i + 1).toNat), eR 64]) rfl rfl rfl ?_
  refine w_s (np := 447) (lv' := [some (eR 1), some (eR 64), some (eR 98), some (eI (i))]) (st' := [eI (i), eR 1, eI (ρ (i + 3).toNat), eI (ρ (i + 2).toNat), eI (ρ (i + 1).toNat), eR 64]) rfl rfl rfl ?_
  refine w_s (np := 448) (lv' := [some (eR 1), some (eR 64), some (eR 98), some (eI (i))]) (st' := [eI (4), eI (i), eR 1, eI (ρ (i + 3).toNat), eI (ρ (i + 2).toNat), eI (ρ (i + 1).toNat), eR 64]) rfl rfl rfl ?_
  have w4 : ev_w (i + 4) = (i + 4) := ev_w_in (by omega) (by omega)
  refine w_s (np := 449) (lv' := [some (eR 1), some (eR 64), some (eR 98), some (eI (i))]) (st' := [eI (i + 4), eR 1, eI (ρ (i + 3).toNat), eI (ρ (i + 2).toNat), eI (ρ (i + 1).toNat), eR 64]) rfl (congrArg (fun q : Int => (some ([some (eR 1), some (eR 64), some (eR 98), some (eI (i))], eI q :: [eR 1, eI (ρ (i + 3).toNat), eI (ρ (i + 2).toNat), eI (ρ (i + 1).toNat), eR 64]) : Option (List (Option eV) × List eV))) w4) rfl ?_
  refine w_al (np := 450) (v := ρ (i + 4).toNat) rfl rfl (lw_sc hL (by omega) (by omega)) ?_
  refine w_cw (np := 453) (as := [eI (ρ (i + 1).toNat), eI (ρ (i + 2).toNat), eI (ρ (i + 3).toNat), eI (ρ (i + 4).toNat)]) (l2 := [some (eR 64), some (eI (ρ (i + 1).toNat)), some (eI (ρ (i + 2).toNat)), some (eI (ρ (i + 3).toNat)), some (eI (ρ (i + 4).toNat))]) (rest := []) rfl rfl rfl (Nat.ble_eq.mp rfl) rfl rfl rfl (hI.kd g64 (by decide) (n := 14) rfl) rfl ?_
  refine s_162 (a1 := ρ (i + 1).toNat) (a2 := ρ (i + 2).toNat) (a3 := ρ (i + 3).toNat) (a4 := ρ (i + 4).toNat) hI g64 (hρ _) (hρ _) (hρ _) (hρ _)  ?_
  intro m7 v5 I8 F9 b6
  have p10 : RP g m7 := RP.fr hP F9 rfl
  have b11 := HB.fr hB g64 F9 rfl
  have e12 : m7.1 64 10 = μ.1 64 10 := F9.k rfl g64 (by decide) rfl
  show ex_q (dt_fg L ρ) rc (d + 14, (0, 453, [some (eR 1), some (eR 64), some (eR 98), some (eI (i))], [eI v5]), F, m7)
  refine w_s (np := 454) (lv' := [some (eR 1), some (eR 64), some (eR 98), some (eI (i))]) (st' := []) rfl rfl rfl ?_
  refine w_s (np := 455) (lv' := [some (eR 1), some (eR 64), some (eR 98), some (eI (i))]) (st' := [eR 98]) rfl rfl rfl ?_
  refine w_s (np := 456) (lv' := [some (eR 1), some (eR 64), some (eR 98), some (eI (i))]) (st' := [eR 1, eR 98]) rfl rfl rfl ?_
  refine w_s (np := 457) (lv' := [some (eR 1), some (eR 64), some (eR 98), some (eI (i))]) (st' := [eI (i), eR 1, eR 98]) rfl rfl rfl ?_
  refine w_s (np := 458) (lv' := [some (eR 1), some (eR 64), some (eR 98), some (eI (i))]) (st' := [eI (1), eI (i), eR 1, eR 98]) rfl rfl rfl ?_
  have w13 : ev_w (i + 1) = (i + 1) := ev_w_in (by omega) (by omega)
  refine w_s (np := 459) (lv' := [some (eR 1), some (eR 64), some (eR 98), some (eI (i))]) (st' := [eI (i + 1), eR 1, eR 98]) rfl (congrArg (fun q : Int => (some ([some (eR 1), some (eR 64), some (eR 98), some (eI (i))], eI q :: [eR 1, eR 98]) : Option (List (Option eV) × List eV))) w13) rfl ?_
  refine w_al (np := 460) (v := ρ (i + 1).toNat) rfl rfl (lw_sc hL (by omega) (by omega)) ?_
  refine w_s (np := 461) (lv' := [some (eR 1), some (eR 64), some (eR 98), some (eI (i))]) (st' := [eR 1, eI (ρ (i + 1).toNat), eR 98]) rfl rfl rfl ?_
  refine w_s (np := 462) (lv' := [some (eR 1), some (eR 64), some (eR 98), some (eI (i))]) (st' := [eI (i), eR 1, eI (ρ (i + 1).toNat), eR 98]) rfl rfl rfl ?_
  refine w_s (np := 463) (lv' := [some (eR 1), some (eR 64), some (eR 98), some (eI (i))]) (st' := [eI (2), eI (i), eR 1, eI (ρ (i + 1).toNat), eR 98]) rfl rfl rfl ?_
  have w14 : ev_w (i + 2) = (i + 2) := ev_w_in (by omega) (by omega)
  refine w_s (np := 464) (lv' := [some (eR 1), some (eR 64), some (eR 98), some (eI (i))]) (st' := [eI (i + 2), eR 1, eI (ρ (i + 1).toNat), eR 98]) rfl (congrArg (fun q : Int => (some ([some (eR 1), some (eR 64), some (eR 98), some (eI (i))], eI q :: [eR 1, eI (ρ (i + 1).toNat), eR 98]) : Option (List (Option eV) × List eV))) w14) rfl ?_
  refine w_al (np := 465) (v := ρ (i + 2).toNat) rfl rfl (lw_sc hL (by omega) (by omega)) ?_
  refine w_s (np := 466) (lv' := [some (eR 1), some (eR 64), some (eR 98), some (eI (i))]) (st' := [eR 1, eI (ρ (i + 2).toNat), eI (ρ (i + 1).toNat), eR 98]) rfl rfl rfl ?_
  refine w_s (np := 467) (lv' := [some (eR 1), some (eR 64), some (eR 98), some (eI (i))]) (st' := [eI (i), eR 1, eI (ρ (i + 2).toNat), eI (ρ (i + 1).toNat), eR 98]) rfl rfl rfl ?_
  refine w_s (np := 468) (lv' := [some (eR 1), some (eR 64), some (eR 98), some (eI (i))]) (st' := [eI (3), eI (i), eR 1, eI (ρ (i + 2).toNat), eI (ρ (i + 1).toNat), eR 98]) rfl rfl rfl ?_
  have w15 : ev_w (i + 3) = (i + 3) := ev_w_in (by omega) (by omega)
  refine w_s (np := 469) (lv' := [some (eR 1), some (eR 64), some (eR 98), some (eI (i))]) (st' := [eI (i + 3), eR 1, eI (ρ (i + 2).toNat), eI (ρ (i + 1).toNat), eR 98]) rfl (congrArg (fun q : Int => (some ([some (eR 1), some (eR 64), some (eR 98), some (eI (i))], eI q :: [eR 1, eI (ρ (i + 2).toNat), eI (ρ (i + 1).toNat), eR 98]) : Option (List (Option eV) × List eV))) w15) rfl ?_
  refine w_al (np := 470) (v := ρ (i + 3).toNat) rfl rfl (lw_sc hL (by omega) (by omega)) ?_
  refine w_s (np := 471) (lv' := [some (eR 1), some (eR 64), some (eR 98), some (eI (i))]) (st' := [eR 1, eI (ρ (i + 3).toNat), eI (ρ (i + 2).toNat), eI (ρ (i + 1).toNat), eR 98]) rfl rfl rfl ?_
  refine w_s (np := 472) (lv' := [some (eR 1), some (eR 64), some (eR 98), some (eI (i))]) (st' := [eI (i), eR 1, eI (ρ (i + 3).toNat), eI (ρ (i + 2).toNat), eI (ρ (i + 1).toNat), eR 98]) rfl rfl rfl ?_
  refine w_s (np := 473) (lv' := [some (eR 1), some (eR 64), some (eR 98), some (eI (i))]) (st' := [eI (4), eI (i), eR 1, eI (ρ (i + 3).toNat), eI (ρ (i + 2).toNat), eI (ρ (i + 1).toNat), eR 98]) rfl rfl rfl ?_
  have w16 : ev_w (i + 4) = (i + 4) := ev_w_in (by omega) (by omega)
  refine w_s (np := 474) (lv' := [some (eR 1), some (eR 64), some (eR 98), some (eI (i))]) (st' := [eI (i + 4), eR 1, eI (ρ (i + 3).toNat), eI (ρ (i + 2).toNat), eI (ρ (i + 1).toNat), eR 98]) rfl (congrArg (fun q : Int => (some ([some (eR 1), some (eR 64), some (eR 98), some (eI (i))], eI q :: [eR 1, eI (ρ (i + 3).toNat), eI (ρ (i + 2).toNat), eI (ρ (i + 1).toNat), eR 98]) : Option (List (Option eV) × List eV))) w16) rfl ?_
  refine w_al (np := 475) (v := ρ (i + 4).toNat) rfl rfl (lw_sc hL (by omega) (by omega)) ?_
  refine w_cw (np := 478) (as := [eI (ρ (i + 1).toNat), eI (ρ (i + 2).toNat), eI (ρ (i + 3).toNat), eI (ρ (i + 4).toNat)]) (l2 := [some (eR 98), some (eI (ρ (i + 1).toNat)), some (eI (ρ (i + 2).toNat)), some (eI (ρ (i + 3).toNat)), some (eI (ρ (i + 4).toNat)), none]) (rest := []) rfl rfl rfl (Nat.ble_eq.mp rfl) rfl rfl rfl (I8.kd g98 (by decide) (n := 69) rfl) rfl ?_
  refine s_268 (a1 := ρ (i + 1).toNat) (a2 := ρ (i + 2).toNat) (a3 := ρ (i + 3).toNat) (a4 := ρ (i + 4).toNat) I8 g98 (hρ _) (hρ _) (hρ _) (hρ _)  ?_
  intro m19 v17 I20 F21 b18
  have p22 : RP g m19 := RP.fr p10 F21 rfl
  have b23 := HB.fr b11 g64 F21 rfl
  have e24 : m19.1 64 10 = m7.1 64 10 := F21.k rfl g64 (by decide) rfl
  show ex_q (dt_fg L ρ) rc (d + 14, (0, 478, [some (eR 1), some (eR 64), some (eR 98), some (eI (i))], [eI v17]), F, m19)
  refine w_s (np := 479) (lv' := [some (eR 1), some (eR 64), some (eR 98), some (eI (i))]) (st' := []) rfl rfl rfl ?_
  refine w_go (t1 := 1788) rfl rfl ?_
  exact K g m19 (GP.r hI.1) I20 p22 b23 (by have h0z := F9.1; have h1z := F21.1; omega) (Or.inl ⟨(by have h0z := F9.2.1; have h1z := F21.2.1; omega), fun q => (by rw [e24, e12]; exact q)⟩)
theorem o_8 {L : Nat} {ρ : Nat → Int} {rc : eQ} {d : Nat} {F : List eFr} {μ : eM} {g : Nat → Nat} {i : Int} (hL : L ≤ 4096) (hρ : ∀ j, -2147483648 ≤ ρ j ∧ ρ j ≤ 2147483647) (hi : 0 ≤ i ∧ i + 8 ≤ (L : Int)) (hI : SI g μ) (g64 : g 64 = 1) (g98 : g 98 = 52) (hP : RP g μ) (hB : HB g μ 64) (K : ∀ (g2 : Nat → Nat) (m : eM), GP g g2 → SI g2 m → RP g2 m → HB g2 m 64 → m.2.1.length ≤ μ.2.1.length + 250 → (m.2.2 ≤ μ.2.2 + 10281 ∧ (μ.1 64 10 ≠ 0 → m.1 64 10 ≠ 0) ∨ μ.1 64 10 = 0 ∧ m.1 64 10 ≠ 0 ∧ m.2.2 ≤ μ.2.2 + 19700) → ex_q (dt_fg L ρ) rc (d + 14, (0, 1788, [some (eR 1), some (eR 64), some (eR 98), some (eI (i))], []), F, m)) : ex_q (dt_fg L ρ) rc (d + 14, (0, 482, [some (eR 1), some (eR 64), some (eR 98), some (eI (i))], []), F, μ) := by
  refine w_s (np := 483) (lv' := [some (eR 1), some (eR 64), some (eR 98), some (eI (i))]) (st' := [eR 64]) rfl rfl rfl ?_
  refine w_s (np := 484) (lv' := [some (eR 1), some (eR 64), some (eR 98), some (eI (i))]) (st' := [eR 1, eR 64]) rfl rfl rfl ?_
  refine w_s (np := 485) (lv' := [some (eR 1), some (eR 64), some (eR 98), some (eI (i))]) (st' := [eI (i), eR 1, eR 64]) rfl rfl rfl ?_
  refine w_s (np := 486) (lv' := [some (eR 1), some (eR 64), some (eR 98), some (eI (i))]) (st' := [eI (1), eI (i), eR 1, eR 64]) rfl rfl rfl ?_
  have w1 : ev_w (i + 1) = (i + 1) := ev_w_in (by omega) (by omega)
  refine w_s (np := 487) (lv' := [some (eR 1), some (eR 64), some (eR 98), some (eI (i))]) (st' := [eI (i + 1), eR 1, eR 64]) rfl (congrArg (fun q : Int => (some ([some (eR 1), some (eR 64), some (eR 98), some (eI (i))], eI q :: [eR 1, eR 64]) : Option (List (Option eV) × List eV))) w1) rfl ?_
  refine w_al (np := 488) (v := ρ (i + 1).toNat) rfl rfl (lw_sc hL (by omega) (by omega)) ?_
  refine w_s (np := 489) (lv' := [some (eR 1), some (eR 64), some (eR 98), some (eI (i))]) (st' := [eR 1, eI (ρ (i + 1).toNat), eR 64]) rfl rfl rfl ?_
  refine w_s (np := 490) (lv' := [some (eR 1), some (eR 64), some (eR 98), some (eI (i))]) (st' := [eI (i), eR 1, eI (ρ (i + 1).toNat), eR 64]) rfl rfl rfl ?_
  refine w_s (np := 491) (lv' := [some (eR 1), some (eR 64), some (eR 98), some (eI (i))]) (st' := [eI (2), eI (i), eR 1, eI (ρ (i + 1).toNat), eR 64]) rfl rfl rfl ?_
  have w2 : ev_w (i + 2) = (i + 2) := ev_w_in (by omega) (by omega)
  refine w_s (np := 492) (lv' := [some (eR 1), some (eR 64), some (eR 98), some (eI (i))]) (st' := [eI (i + 2), eR 1, eI (ρ (i + 1).toNat), eR 64]) rfl (congrArg (fun q : Int => (some ([some (eR 1), some (eR 64), some (eR 98), some (eI (i))], eI q :: [eR 1, eI (ρ (i + 1).toNat), eR 64]) : Option (List (Option eV) × List eV))) w2) rfl ?_
  refine w_al (np := 493) (v := ρ (i + 2).toNat) rfl rfl (lw_sc hL (by omega) (by omega)) ?_
  refine w_cw (np := 496) (as := [eI (ρ (i + 1).toNat), eI (ρ (i + 2).toNat)]) (l2 := [some (eR 64), some (eI (ρ (i + 1).toNat)), some (eI (ρ (i + 2).toNat))]) (rest := []) rfl rfl rfl (Nat.ble_eq.mp rfl) rfl rfl rfl (hI.kd g64 (by decide) (n := 14) rfl) rfl ?_
  refine s_163 (a1 := ρ (i + 1).toNat) (a2 := ρ (i + 2).toNat) hI g64 (hρ _) (hρ _)  ?_
  intro m5 v3 I6 F7 b4
  have p8 : RP g m5 := RP.fr hP F7 rfl
  have b9 := HB.fr hB g64 F7 rfl
  have e10 : m5.1 64 10 = μ.1 64 10 := F7.k rfl g64 (by decide) rfl
  show ex_q (dt_fg L ρ) rc (d + 14, (0, 496, [some (eR 1), some (eR 64), some (eR 98), some (eI (i))], [eI v3]), F, m5)
  refine w_s (np := 497) (lv' := [some (eR 1), some (eR 64), some (eR 98), some (eI (i))]) (st' := []) rfl rfl rfl ?_
  refine w_s (np := 498) (lv' := [some (eR 1), some (eR 64), some (eR 98), some (eI (i))]) (st' := [eR 98]) rfl rfl rfl ?_
  refine w_s (np := 499) (lv' := [some (eR 1), some (eR 64), some (eR 98), some (eI (i))]) (st' := [eR 1, eR 98]) rfl rfl rfl ?_
  refine w_s (np := 500) (lv' := [some (eR 1), some (eR 64), some (eR 98), some (eI (i))]) (st' := [eI (i), eR 1, eR 98]) rfl rfl rfl ?_
  refine w_s (np := 501) (lv' := [some (eR 1), some (eR 64), some (eR 98), some (eI (i))]) (st' := [eI (1), eI (i), eR 1, eR 98]) rfl rfl rfl ?_
  have w11 : ev_w (i + 1) = (i + 1) := ev_w_in (by omega) (by omega)
  refine w_s (np := 502) (lv' := [some (eR 1), some (eR 64), some (eR 98), some (eI (i))]) (st' := [eI (i + 1), eR 1, eR 98]) rfl (congrArg (fun q : Int => (some ([some (eR 1), some (eR 64), some (eR 98), some (eI (i))], eI q :: [eR 1, eR 98]) : Option (List (Option eV) × List eV))) w11) rfl ?_
  refine w_al (np := 503) (v := ρ (i + 1).toNat) rfl rfl (lw_sc hL (by omega) (by omega)) ?_
  refine w_s (np := 504) (lv' := [some (eR 1), some (eR 64), some (eR 98), some (eI (i))]) (st' := [eR 1, eI (ρ (i + 1).toNat), eR 98]) rfl rfl rfl ?_
  refine w_s (np := 505) (lv' := [some (eR 1), some (eR 64), some (eR 98), some (eI (i))]) (st' := [eI (i), eR 1, eI (ρ (i + 1).toNat), eR 98]) rfl rfl rfl ?_
  refine w_s (np := 506) (lv' := [some (eR 1), some (eR 64), some (eR 98), some (eI (i))]) (st' := [eI (2), eI (i), eR 1, eI (ρ (i + 1).toNat), eR 98]) rfl rfl rfl ?_
  have w12 : ev_w (i + 2) = (i + 2) := ev_w_in (by omega) (by omega)
  refine w_s (np := 507) (lv' := [some (eR 1), some (eR 64), some (eR 98), some (eI (i))]) (st' := [eI (i + 2), eR 1, eI (ρ (i + 1).toNat), eR 98]) rfl (congrArg (fun q : Int => (some ([some (eR 1), some (eR 64), some (eR 98), some (eI (i))], eI q :: [eR 1, eI (ρ (i + 1).toNat), eR 98]) : Option (List (Option eV) × List eV))) w12) rfl ?_
  refine w_al (np := 508) (v := ρ (i + 2).toNat) rfl rfl (lw_sc hL (by omega) (by omega)) ?_
  refine w_cw (np := 511) (as := [eI (ρ (i + 1).toNat), eI (ρ (i + 2).toNat)]) (l2 := [some (eR 98), some (eI (ρ (i + 1).toNat)), some (eI (ρ (i + 2).toNat))]) (rest := []) rfl rfl rfl (Nat.ble_eq.mp rfl) rfl rfl rfl (I6.kd g98 (by decide) (n := 69) rfl) rfl ?_
  refine s_270 (a1 := ρ (i + 1).toNat) (a2 := ρ (i + 2).toNat) I6 g98 (hρ _) (hρ _)  ?_
  intro m15 v13 I16 F17 b14
  have p18 : RP g m15 := RP.fr p8 F17 rfl
  have b19 := HB.fr b9 g64 F17 rfl
  have e20 : m15.1 64 10 = m5.1 64 10 := F17.k rfl g64 (by decide) rfl
  show ex_q (dt_fg L ρ) rc (d + 14, (0, 511, [some (eR 1), some (eR 64), some (eR 98), some (eI (i))], [eI v13]), F, m15)
  refine w_s (np := 512) (lv' := [some (eR 1), some (eR 64), some (eR 98), some (eI (i))]) (st' := []) rfl rfl rfl ?_
  refine w_go (t1 := 1788) rfl rfl ?_
  exact K g m15 (GP.r hI.1) I16 p18 b19 (by have h0z := F7.1; have h1z := F17.1; omega) (Or.inl ⟨(by have h0z := F7.2.1; have h1z := F17.2.1; omega), fun q => (by rw [e20, e10]; exact q)⟩)
theorem o_9 {L : Nat} {ρ : Nat → Int} {rc : eQ} {d : Nat} {F : List eFr} {μ : eM} {g : Nat → Nat} {i : Int} (hL : L ≤ 4096) (hρ : ∀ j, -2147483648 ≤ ρ j ∧ ρ j ≤ 2147483647) (hi : 0 ≤ i ∧ i + 8 ≤ (L : Int)) (hI : SI g μ) (g64 : g 64 = 1) (g98 : g 98 = 52) (hP : RP g μ) (hB : HB g μ 64) (K : ∀ (g2 : Nat → Nat) (m : eM), GP g g2 → SI g2 m → RP g2 m → HB g2 m 64 → m.2.1.length ≤ μ.2.1.length + 250 → (m.2.2 ≤ μ.2.2 + 10281 ∧ (μ.1 64 10 ≠ 0 → m.1 64 10 ≠ 0) ∨ μ.1 64 10 = 0 ∧ m.1 64 10 ≠ 0 ∧ m.2.2 ≤ μ.2.2 + 19700) → ex_q (dt_fg L ρ) rc (d + 14, (0, 1788, [some (eR 1), some (eR 64), some (eR 98), some (eI (i))], []), F, m)) : ex_q (dt_fg L ρ) rc (d + 14, (0, 515, [some (eR 1), some (eR 64), some (eR 98), some (eI (i))], []), F, μ) := by
  refine w_s (np := 516) (lv' := [some (eR 1), some (eR 64), some (eR 98), some (eI (i))]) (st' := [eR 64]) rfl rfl rfl ?_
  refine w_s (np := 517) (lv' := [some (eR 1), some (eR 64), some (eR 98), some (eI (i))]) (st' := [eR 1, eR 64]) rfl rfl rfl ?_
  refine w_s (np := 518) (lv' := [some (eR 1), some (eR 64), some (eR 98), some (eI (i))]) (st' := [eI (i), eR 1, eR 64]) rfl rfl rfl ?_
  refine w_s (np := 519) (lv' := [some (eR 1), some (eR 64), some (eR 98), some (eI (i))]) (st' := [eI (1), eI (i), eR 1, eR 64]) rfl rfl rfl ?_
  have w1 : ev_w (i + 1) = (i + 1) := ev_w_in (by omega) (by omega)
  refine w_s (np := 520) (lv' := [some (eR 1), some (eR 64), some (eR 98), some (eI (i))]) (st' := [eI (i + 1), eR 1, eR 64]) rfl (congrArg (fun q : Int => (some ([some (eR 1), some (eR 64), some (eR 98), some (eI (i))], eI q :: [eR 1, eR 64]) : Option (List (Option eV) × List eV))) w1) rfl ?_
  refine w_al (np := 521) (v := ρ (i + 1).toNat) rfl rfl (lw_sc hL (by omega) (by omega)) ?_
  refine w_s (np := 522) (lv' := [some (eR 1), some (eR 64), some (eR 98), some (eI (i))]) (st' := [eR 1, eI (ρ (i + 1).toNat), eR 64]) rfl rfl rfl ?_
  refine w_s (np := 523) (lv' := [some (eR 1), some (eR 64), some (eR 98), some (eI (i))]) (st' := [eI (i), eR 1, eI (ρ (i + 1).toNat), eR 64]) rfl rfl rfl ?_
  refine w_s (np := 524) (lv' := [some (eR 1), some (eR 64), some (eR 98), some (eI (i))]) (st' := [eI (2), eI (i), eR 1, eI (ρ (i + 1).toNat), eR 64]) rfl rfl rfl ?_
  have w2 : ev_w (i + 2) = (i + 2) := ev_w_in (by omega) (by omega)
  refine w_s (np := 525) (lv' := [some (eR 1), some (eR 64), some (eR 98), some (eI (i))]) (st' := [eI (i + 2), eR 1, eI (ρ (i + 1).toNat), eR 64]) rfl (congrArg (fun q : Int => (some ([some (eR 1), some (eR 64), some (eR 98), some (eI (i))], eI q :: [eR 1, eI (ρ (i + 1).toNat), eR 64]) : Option (List (Option eV) × List eV))) w2) rfl ?_
  refine w_al (np := 526) (v := ρ (i + 2).toNat) rfl rfl (lw_sc hL (by omega) (by omega)) ?_
  refine w_s (np := 527) (lv' := [some (eR 1), some (eR 64), some (eR 98), some (eI (i))]) (st' := [eR 1, eI (ρ (i + 2).toNat), eI (ρ (i + 1).toNat), eR 64]) rfl rfl rfl ?_
  refine w_s (np := 528) (lv' := [some (eR 1), some (eR 64), some (eR 98), some (eI (i))]) (st' := [eI (i), eR 1, eI (ρ (i + 2).toNat), eI (ρ (i + 1).toNat), eR 64]) rfl rfl rfl ?_
  refine w_s (np := 529) (lv' := [some (eR 1), some (eR 64), some (eR 98), some (eI (i))]) (st' := [eI (3), eI (i), eR 1, eI (ρ (i + 2).toNat), eI (ρ (i + 1).toNat), eR 64]) rfl rfl rfl ?_
  have w3 : ev_w (i + 3) = (i + 3) := ev_w_in (by omega) (by omega)
  refine w_s (np := 530) (lv' := [some (eR 1), some (eR 64), some (eR 98), some (eI (i))]) (st' := [eI (i + 3), eR 1, eI (ρ (i + 2).toNat), eI (ρ (i + 1).toNat), eR 64]) rfl (congrArg (fun q : Int => (some ([some (eR 1), some (eR 64), some (eR 98), some (eI (i))], eI q :: [eR 1, eI (ρ (i + 2).toNat), eI (ρ (i + 1).toNat), eR 64]) : Option (List (Option eV) × List eV))) w3) rfl ?_
  refine w_al (np := 531) (v := ρ (i + 3).toNat) rfl rfl (lw_sc hL (by omega) (by omega)) ?_
  refine w_cw (np := 534) (as := [eI (ρ (i + 1).toNat), eI (ρ (i + 2).toNat), eI (ρ (i + 3).toNat)]) (l2 := [some (eR 64), some (eI (ρ (i + 1).toNat)), some (eI (ρ (i + 2).toNat)), some (eI (ρ (i + 3).toNat)), none, none, none, none, none, none, none]) (rest := []) rfl rfl rfl (Nat.ble_eq.mp rfl) rfl rfl rfl (hI.kd g64 (by decide) (n := 14) rfl) rfl ?_
  refine s_164 (a1 := ρ (i + 1).toNat) (a2 := ρ (i + 2).toNat) (a3 := ρ (i + 3).toNat) hI g64 (hρ _) (hρ _) (hρ _)  ?_
  intro m6 v4 I7 F8 b5
  have p9 : RP g m6 := RP.fr hP F8 rfl
  have b10 := HB.fr hB g64 F8 rfl
  have e11 : m6.1 64 10 = μ.1 64 10 := F8.k rfl g64 (by decide) rfl
  show ex_q (dt_fg L ρ) rc (d + 14, (0, 534, [some (eR 1), some (eR 64), some (eR 98), some (eI (i))], [eJ v4]), F, m6)
  refine w_s (np := 535) (lv' := [some (eR 1), some (eR 64), some (eR 98), some (eI (i))]) (st' := []) rfl rfl rfl ?_
  refine w_s (np := 536) (lv' := [some (eR 1), some (eR 64), some (eR 98), some (eI (i))]) (st' := [eR 98]) rfl rfl rfl ?_
  refine w_s (np := 537) (lv' := [some (eR 1), some (eR 64), some (eR 98), some (eI (i))]) (st' := [eR 1, eR 98]) rfl rfl rfl ?_
  refine w_s (np := 538) (lv' := [some (eR 1), some (eR 64), some (eR 98), some (eI (i))]) (st' := [eI (i), eR 1, eR 98]) rfl rfl rfl ?_
  refine w_s (np := 539) (lv' := [some (eR 1), some (eR 64), some (eR 98), some (eI (i))]) (st' := [eI (1), eI (i), eR 1, eR 98]) rfl rfl rfl ?_
  have w12 : ev_w (i + 1) = (i + 1) := ev_w_in (by omega) (by omega)
  refine w_s (np := 540) (lv' := [some (eR 1), some (eR 64), some (eR 98), some (eI (i))]) (st' := [eI (i + 1), eR 1, eR 98]) rfl (congrArg (fun q : Int => (some ([some (eR 1), some (eR 64), some (eR 98), some (eI (i))], eI q :: [eR 1, eR 98]) : Option (List (Option eV) × List eV))) w12) rfl ?_
  refine w_al (np := 541) (v := ρ (i + 1).toNat) rfl rfl (lw_sc hL (by omega) (by omega)) ?_
  refine w_s (np := 542) (lv' := [some (eR 1), some (eR 64), some (eR 98), some (eI (i))]) (st' := [eR 1, eI (ρ (i + 1).toNat), eR 98]) rfl rfl rfl ?_
  refine w_s (np := 543) (lv' := [some (eR 1), some (eR 64), some (eR 98), some (eI (i))]) (st' := [eI (i), eR 1, eI (ρ (i + 1).toNat), eR 98]) rfl rfl rfl ?_
  refine w_s (np := 544) (lv' := [some (eR 1), some (eR 64), some (eR 98), some (eI (i))]) (st' := [eI (2), eI (i), eR 1, eI (ρ (i + 1).toNat), eR 98]) rfl rfl rfl ?_
  have w13 : ev_w (i + 2) = (i + 2) := ev_w_in (by omega) (by omega)
  refine w_s (np := 545) (lv' := [some (eR 1), some (eR 64), some (eR 98), some (eI (i))]) (st' := [eI (i + 2), eR 1, eI (ρ (i + 1).toNat), eR 98]) rfl (congrArg (fun q : Int => (some ([some (eR 1), some (eR 64), some (eR 98), some (eI (i))], eI q :: [eR 1, eI (ρ (i + 1).toNat), eR 98]) : Option (List (Option eV) × List eV))) w13) rfl ?_
  refine w_al (np := 546) (v := ρ (i + 2).toNat) rfl rfl (lw_sc hL (by omega) (by omega)) ?_
  refine w_s (np := 547) (lv' := [some (eR 1), some (eR 64), some (eR 98), some (eI (i))]) (st' := [eR 1, eI (ρ (i + 2).toNat), eI (ρ (i + 1).toNat), eR 98]) rfl rfl rfl ?_
  refine w_s (np := 548) (lv' := [some (eR 1), some (eR 64), some (eR 98), some (eI (i))]) (st' := [eI (i), eR 1, eI (ρ (i + 2).toNat), eI (ρ (i + 1).toNat), eR 98]) rfl rfl rfl ?_
  refine w_s (np := 549) (lv' := [some (eR 1), some (eR 64), some (eR 98), some (eI (i))]) (st' := [eI (3), eI (i), eR 1, eI (ρ (i + 2).toNat), eI (ρ (i + 1).toNat), eR 98]) rfl rfl rfl ?_
  have w14 : ev_w (i + 3) = (i + 3) := ev_w_in (by omega) (by omega)
  refine w_s (np := 550) (lv' := [some (eR 1), some (eR 64), some (eR 98), some (eI (i))]) (st' := [eI (i + 3), eR 1, eI (ρ (i + 2).toNat), eI (ρ (i + 1).toNat), eR 98]) rfl (congrArg (fun q : Int => (some ([some (eR 1), some (eR 64), some (eR 98), some (eI (i))], eI q :: [eR 1, eI (ρ (i + 2).toNat), eI (ρ (i + 1).toNat), eR 98]) : Option (List (Option eV) × List eV))) w14) rfl ?_
  refine w_al (np := 551) (v := ρ (i + 3).toNat) rfl rfl (lw_sc hL (by omega) (by omega)) ?_
  refine w_cw (np := 554) (as := [eI (ρ (i + 1).toNat), eI (ρ (i + 2).toNat), eI (ρ (i + 3).toNat)]) (l2 := [some (eR 98), some (eI (ρ (i + 1).toNat)), some (eI (ρ (i + 2).toNat)), some (eI (ρ (i + 3).toNat)), none, none, none, none, none, none, none]) (rest := []) rfl rfl rfl (Nat.ble_eq.mp rfl) rfl rfl rfl (I7.kd g98 (by decide) (n := 69) rfl) rfl ?_
  refine s_271 (a1 := ρ (i + 1).toNat) (a2 := ρ (i + 2).toNat) (a3 := ρ (i + 3).toNat) I7 g98 (hρ _) (hρ _) (hρ _)  ?_
  intro m17 v15 I18 F19 b16
  have p20 : RP g m17 := RP.fr p9 F19 rfl
  have b21 := HB.fr b10 g64 F19 rfl
  have e22 : m17.1 64 10 = m6.1 64 10 := F19.k rfl g64 (by decide) rfl
  show ex_q (dt_fg L ρ) rc (d + 14, (0, 554, [some (eR 1), some (eR 64), some (eR 98), some (eI (i))], [eJ v15]), F, m17)
  refine w_s (np := 555) (lv' := [some (eR 1), some (eR 64), some (eR 98), some (eI (i))]) (st' := []) rfl rfl rfl ?_
  refine w_go (t1 := 1788) rfl rfl ?_
  exact K g m17 (GP.r hI.1) I18 p20 b21 (by have h0z := F8.1; have h1z := F19.1; omega) (Or.inl ⟨(by have h0z := F8.2.1; have h1z := F19.2.1; omega), fun q => (by rw [e22, e11]; exact q)⟩)
theorem o_10 {L : Nat} {ρ : Nat → Int} {rc : eQ} {d : Nat} {F : List eFr} {μ : eM} {g : Nat → Nat} {i : Int} (hL : L ≤ 4096) (hρ : ∀ j, -2147483648 ≤ ρ j ∧ ρ j ≤ 2147483647) (hi : 0 ≤ i ∧ i + 8 ≤ (L : Int)) (hI : SI g μ) (g64 : g 64 = 1) (g98 : g 98 = 52) (hP : RP g μ) (hB : HB g μ 64) (K : ∀ (g2 : Nat → Nat) (m : eM), GP g g2 → SI g2 m → RP g2 m → HB g2 m 64 → m.2.1.length ≤ μ.2.1.length + 250 → (m.2.2 ≤ μ.2.2 + 10281 ∧ (μ.1 64 10 ≠ 0 → m.1 64 10 ≠ 0) ∨ μ.1 64 10 = 0 ∧ m.1 64 10 ≠ 0 ∧ m.2.2 ≤ μ.2.2 + 19700) → ex_q (dt_fg L ρ) rc (d + 14, (0, 1788, [some (eR 1), some (eR 64), some (eR 98), some (eI (i))], []), F, m)) : ex_q (dt_fg L ρ) rc (d + 14, (0, 558, [some (eR 1), some (eR 64), some (eR 98), some (eI (i))], []), F, μ) := by
  refine w_s (np := 559) (lv' := [some (eR 1), some (eR 64), some (eR 98), some (eI (i))]) (st' := [eR 64]) rfl rfl rfl ?_
  refine w_s (np := 560) (lv' := [some (eR 1), some (eR 64), some (eR 98), some (eI (i))]) (st' := [eR 1, eR 64]) rfl rfl rfl ?_
  refine w_s (np := 561) (lv' := [some (eR 1), some (eR 64), some (eR 98), some (eI (i))]) (st' := [eI (i), eR 1, eR 64]) rfl rfl rfl ?_
  refine w_s (np := 562) (lv' := [some (eR 1), some (eR 64), some (eR 98), some (eI (i))]) (st' := [eI (1), eI (i), eR 1, eR 64]) rfl rfl rfl ?_
  have w1 : ev_w (i + 1) = (i + 1) := ev_w_in (by omega) (by omega)
  refine w_s (np := 563) (lv' := [some (eR 1), some (eR 64), some (eR 98), some (eI (i))]) (st' := [eI (i + 1), eR 1, eR 64]) rfl (congrArg (fun q : Int => (some ([some (eR 1), some (eR 64), some (eR 98), some (eI (i))], eI q :: [eR 1, eR 64]) : Option (List (Option eV) × List eV))) w1) rfl ?_
  refine w_al (np := 564) (v := ρ (i + 1).toNat) rfl rfl (lw_sc hL (by omega) (by omega)) ?_
  refine w_cw (np := 567) (as := [eI (ρ (i + 1).toNat)]) (l2 := [some (eR 64), some (eI (ρ (i + 1).toNat))]) (rest := []) rfl rfl rfl (Nat.ble_eq.mp rfl) rfl rfl rfl (hI.kd g64 (by decide) (n := 14) rfl) rfl ?_
  refine s_165 (a1 := ρ (i + 1).toNat) hI g64 (hρ _)  ?_
  intro m4 v2 I5 F6 b3
  have p7 : RP g m4 := RP.fr hP F6 rfl
  have b8 := HB.fr hB g64 F6 rfl
  have e9 : m4.1 64 10 = μ.1 64 10 := F6.k rfl g64 (by decide) rfl
  show ex_q (dt_fg L ρ) rc (d + 14, (0, 567, [some (eR 1), some (eR 64), some (eR 98), some (eI (i))], [eI v2]), F, m4)
  refine w_s (np := 568) (lv' := [some (eR 1), some (eR 64), some (eR 98), some (eI (i))]) (st' := []) rfl rfl rfl ?_
  refine w_s (np := 569) (lv' := [some (eR 1), some (eR 64), some (eR 98), some (eI (i))]) (st' := [eR 98]) rfl rfl rfl ?_
  refine w_s (np := 570) (lv' := [some (eR 1), some (eR 64), some (eR 98), some (eI (i))]) (st' := [eR 1, eR 98]) rfl rfl rfl ?_
  refine w_s (np := 571) (lv' := [some (eR 1), some (eR 64), some (eR 98), some (eI (i))]) (st' := [eI (i), eR 1, eR 98]) rfl rfl rfl ?_
  refine w_s (np := 572) (lv' := [some (eR 1), some (eR 64), some (eR 98), some (eI (i))]) (st' := [eI (1), eI (i), eR 1, eR 98]) rfl rfl rfl ?_
  have w10 : ev_w (i + 1) = (i + 1) := ev_w_in (by omega) (by omega)
  refine w_s (np := 573) (lv' := [some (eR 1), some (eR 64), some (eR 98), some (eI (i))]) (st' := [eI (i + 1), eR 1, eR 98]) rfl (congrArg (fun q : Int => (some ([some (eR 1), some (eR 64), some (eR 98), some (eI (i))], eI q :: [eR 1, eR 98]) : Option (List (Option eV) × List eV))) w10) rfl ?_
  refine w_al (np := 574) (v := ρ (i + 1).toNat) rfl rfl (lw_sc hL (by omega) (by omega)) ?_
  refine w_cw (np := 577) (as := [eI (ρ (i + 1).toNat)]) (l2 := [some (eR 98), some (eI (ρ (i + 1).toNat))]) (rest := []) rfl rfl rfl (Nat.ble_eq.mp rfl) rfl rfl rfl (I5.kd g98 (by decide) (n := 69) rfl) rfl ?_
  refine s_272 (a1 := ρ (i + 1).toNat) I5 g98 (hρ _)  ?_
  intro m13 v11 I14 F15 b12
  have p16 : RP g m13 := RP.fr p7 F15 rfl
  have b17 := HB.fr b8 g64 F15 rfl
  have e18 : m13.1 64 10 = m4.1 64 10 := F15.k rfl g64 (by decide) rfl
  show ex_q (dt_fg L ρ) rc (d + 14, (0, 577, [some (eR 1), some (eR 64), some (eR 98), some (eI (i))], [eI v11]), F, m13)
  refine w_s (np := 578) (lv' := [some (eR 1), some (eR 64), some (eR 98), some (eI (i))]) (st' := []) rfl rfl rfl ?_
  refine w_go (t1 := 1788) rfl rfl ?_
  exact K g m13 (GP.r hI.1) I14 p16 b17 (by have h0z := F6.1; have h1z := F15.1; omega) (Or.inl ⟨(by have h0z := F6.2.1; have h1z := F15.2.1; omega), fun q => (by rw [e18, e9]; exact q)⟩)
theorem o_11 {L : Nat} {ρ : Nat → Int} {rc : eQ} {d : Nat} {F : List eFr} {μ : eM} {g : Nat → Nat} {i : Int} (hL : L ≤ 4096) (hρ : ∀ j, -2147483648 ≤ ρ j ∧ ρ j ≤ 2147483647) (hi : 0 ≤ i ∧ i + 8 ≤ (L : Int)) (hI : SI g μ) (g64 : g 64 = 1) (g98 : g 98 = 52) (hP : RP g μ) (hB : HB g μ 64) (K : ∀ (g2 : Nat → Nat) (m : eM), GP g g2 → SI g2 m → RP g2 m → HB g2 m 64 → m.2.1.length ≤ μ.2.1.length + 250 → (m.2.2 ≤ μ.2.2 + 10281 ∧ (μ.1 64 10 ≠ 0 → m.1 64 10 ≠ 0) ∨ μ.1 64 10 = 0 ∧ m.1 64 10 ≠ 0 ∧ m.2.2 ≤ μ.2.2 + 19700) → ex_q (dt_fg L ρ) rc (d + 14, (0, 1788, [some (eR 1), some (eR 64), some (eR 98), some (eI (i))], []), F, m)) : ex_q (dt_fg L ρ) rc (d + 14, (0, 581, [some (eR 1), some (eR 64), some (eR 98), some (eI (i))], []), F, μ) := by
  refine w_s (np := 582) (lv' := [some (eR 1), some (eR 64), some (eR 98), some (eI (i))]) (st' := [eR 64]) rfl rfl rfl ?_
  refine w_s (np := 583) (lv' := [some (eR 1), some (eR 64), some (eR 98), some (eI (i))]) (st' := [eR 1, eR 64]) rfl rfl rfl ?_
  refine w_s (np := 584) (lv' := [some (eR 1), some (eR 64), some (eR 98), some (eI (i))]) (st' := [eI (i), eR 1, eR 64]) rfl rfl rfl ?_
  refine w_s (np := 585) (lv' := [some (eR 1), some (eR 64), some (eR 98), some (eI (i))]) (st' := [eI (1), eI (i), eR 1, eR 64]) rfl rfl rfl ?_
  have w1 : ev_w (i + 1) = (i + 1) := ev_w_in (by omega) (by omega)
  refine w_s (np := 586) (lv' := [some (eR 1), some (eR 64), some (eR 98), some (eI (i))]) (st' := [eI (i + 1), eR 1, eR 64]) rfl (congrArg (fun q : Int => (some ([some (eR 1), some (eR 64), some (eR 98), some (eI (i))], eI q :: [eR 1, eR 64]) : Option (List (Option eV) × List eV))) w1) rfl ?_
  refine w_al (np := 587) (v := ρ (i + 1).toNat) rfl rfl (lw_sc hL (by omega) (by omega)) ?_
  refine w_s (np := 588) (lv' := [some (eR 1), some (eR 64), some (eR 98), some (eI (i))]) (st' := [eR 1, eI (ρ (i + 1).toNat), eR 64]) rfl rfl rfl ?_
  refine w_s (np := 589) (lv' := [some (eR 1), some (eR 64), some (eR 98), some (eI (i))]) (st' := [eI (i), eR 1, eI (ρ (i + 1).toNat), eR 64]) rfl rfl rfl ?_
  refine w_s (np := 590) (lv' := [some (eR 1), some (eR 64), some (eR 98), some (eI (i))]) (st' := [eI (2), eI (i), eR 1, eI (ρ (i + 1).toNat), eR 64]) rfl rfl rfl ?_
  have w2 : ev_w (i + 2) = (i + 2) := ev_w_in (by omega) (by omega)
  refine w_s (np := 591) (lv' := [some (eR 1), some (eR 64), some (eR 98), some (eI (i))]) (st' := [eI (i + 2), eR 1, eI (ρ (i + 1).toNat), eR 64]) rfl (congrArg (fun q : Int => (some ([some (eR 1), some (eR 64), some (eR 98), some (eI (i))], eI q :: [eR 1, eI (ρ (i + 1).toNat), eR 64]) : Option (List (Option eV) × List eV))) w2) rfl ?_
  refine w_al (np := 592) (v := ρ (i + 2).toNat) rfl rfl (lw_sc hL (by omega) (by omega)) ?_
  refine w_s (np := 593) (lv' := [some (eR 1), some (eR 64), some (eR 98), some (eI (i))]) (st' := [eR 1, eI (ρ (i + 2).toNat), eI (ρ (i + 1).toNat), eR 64]) rfl rfl rfl ?_
  refine w_s (np := 594) (lv' := [some (eR 1), some (eR 64), some (eR 98), some (eI (i))]) (st' := [eI (i), eR 1, eI (ρ (i + 2).toNat), eI (ρ (i + 1).toNat), eR 64]) rfl rfl rfl ?_
  refine w_s (np := 595) (lv' := [some (eR 1), some (eR 64), some (eR 98), some (eI (i))]) (st' := [eI (3), eI (i), eR 1, eI (ρ (i + 2).toNat), eI (ρ (i + 1).toNat), eR 64]) rfl rfl rfl ?_
  have w3 : ev_w (i + 3) = (i + 3) := ev_w_in (by omega) (by omega)
  refine w_s (np := 596) (lv' := [some (eR 1), some (eR 64), some (eR 98), some (eI (i))]) (st' := [eI (i + 3), eR 1, eI (ρ (i + 2).toNat), eI (ρ (i + 1).toNat), eR 64]) rfl (congrArg (fun q : Int => (some ([some (eR 1), some (eR 64), some (eR 98), some (eI (i))], eI q :: [eR 1, eI (ρ (i + 2).toNat), eI (ρ (i + 1).toNat), eR 64]) : Option (List (Option eV) × List eV))) w3) rfl ?_
  refine w_al (np := 597) (v := ρ (i + 3).toNat) rfl rfl (lw_sc hL (by omega) (by omega)) ?_
  refine w_s (np := 598) (lv' := [some (eR 1), some (eR 64), some (eR 98), some (eI (i))]) (st' := [eR 1, eI (ρ (i + 3).toNat), eI (ρ (i + 2).toNat), eI (ρ (i + 1).toNat), eR 64]) rfl rfl rfl ?_
  refine w_s (np := 599) (lv' := [some (eR 1), some (eR 64), some (eR 98), some (eI (i))]) (st' := [eI (i), eR 1, eI (ρ (i + 3).toNat), eI (ρ (i + 2).toNat), eI (ρ (i + 1).toNat), eR 64]) rfl rfl rfl ?_
  refine w_s (np := 600) (lv' := [some (eR 1), some (eR 64), some (eR 98), some (eI (i))]) (st' := [eI (4), eI (i), eR 1, eI (ρ (i + 3).toNat), eI (ρ (i + 2).toNat), eI (ρ (i + 1).toNat), eR 64]) rfl rfl rfl ?_
  have w4 : ev_w (i + 4) = (i + 4) := ev_w_in (by omega) (by omega)
  refine w_s (np := 601) (lv' := [some (eR 1), some (eR 64), some (eR 98), some (eI (i))]) (st' := [eI (i + 4), eR 1, eI (ρ (i + 3).toNat), eI (ρ (i + 2).toNat), eI (ρ (i + 1).toNat), eR 64]) rfl (congrArg (fun q : Int => (some ([some (eR 1), some (eR 64), some (eR 98), some (eI (i))], eI q :: [eR 1, eI (ρ (i + 3).toNat), eI (ρ (i + 2).toNat), eI (ρ (i + 1).toNat), eR 64]) : Option (List (Option eV) × List eV))) w4) rfl ?_
  refine w_al (np := 602) (v := ρ (i + 4).toNat) rfl rfl (lw_sc hL (by omega) (by omega)) ?_
  refine w_cw (np := 605) (as := [eI (ρ (i + 1).toNat), eI (ρ (i + 2).toNat), eI (ρ (i + 3).toNat), eI (ρ (i + 4).toNat)]) (l2 := [some (eR 64), some (eI (ρ (i + 1).toNat)), some (eI (ρ (i + 2).toNat)), some (eI (ρ (i + 3).toNat)), some (eI (ρ (i + 4).toNat)), none, none, none, none, none, none]) (rest := []) rfl rfl rfl (Nat.ble_eq.mp rfl) rfl rfl rfl (hI.kd g64 (by decide) (n := 14) rfl) rfl ?_
  refine s_166 (a1 := ρ (i + 1).toNat) (a2 := ρ (i + 2).toNat) (a3 := ρ (i + 3).toNat) (a4 := ρ (i + 4).toNat) hI g64 (hρ _) (hρ _) (hρ _) (hρ _)  ?_
  intro m7 v5 I8 F9 b6
  have p10 : RP g m7 := RP.fr hP F9 rfl
  have b11 := HB.fr hB g64 F9 rfl
  have e12 : m7.1 64 10 = μ.1 64 10 := F9.k rfl g64 (by decide) rfl
  show ex_q (dt_fg L ρ) rc (d + 14, (0, 605, [some (eR 1), some (eR 64), some (eR 98), some (eI (i))], [eI v5]), F, m7)
  refine w_s (np := 606) (lv' := [some (eR 1), some (eR 64), some (eR 98), some (eI (i))]) (st' := []) rfl rfl rfl ?_
  refine w_s (np := 607) (lv' := [some (eR 1), some (eR 64), some (eR 98), some (eI (i))]) (st' := [eR 98]) rfl rfl rfl ?_
  refine w_s (np := 608) (lv' := [some (eR 1), some (eR 64), some (eR 98), some (eI (i))]) (st' := [eR 1, eR 98]) rfl rfl rfl ?_
  refine w_s (np := 609) (lv' := [some (eR 1), some (eR 64), some (eR 98), some (eI (i))]) (st' := [eI (i), eR 1, eR 98]) rfl rfl rfl ?_
  refine w_s (np := 610) (lv' := [some (eR 1), some (eR 64), some (eR 98), some (eI (i))]) (st' := [eI (1), eI (i), eR 1, eR 98]) rfl rfl rfl ?_
  have w13 : ev_w (i + 1) = (i + 1) := ev_w_in (by omega) (by omega)
  refine w_s (np := 611) (lv' := [some (eR 1), some (eR 64), some (eR 98), some (eI (i))]) (st' := [eI (i + 1), eR 1, eR 98]) rfl (congrArg (fun q : Int => (some ([some (eR 1), some (eR 64), some (eR 98), some (eI (i))], eI q :: [eR 1, eR 98]) : Option (List (Option eV) × List eV))) w13) rfl ?_
  refine w_al (np := 612) (v := ρ (i + 1).toNat) rfl rfl (lw_sc hL (by omega) (by omega)) ?_
  refine w_s (np := 613) (lv' := [some (eR 1), some (eR 64), some (eR 98), some (eI (i))]) (st' := [eR 1, eI (ρ (i + 1).toNat), eR 98]) rfl rfl rfl ?_
  refine w_s (np := 614) (lv' := [some (eR 1), some (eR 64), some (eR 98), some (eI (i))]) (st' := [eI (i), eR 1, eI (ρ (i + 1).toNat), eR 98]) rfl rfl rfl ?_
  refine w_s (np := 615) (lv' := [some (eR 1), some (eR 64), some (eR 98), some (eI (i))]) (st' := [eI (2), eI (i), eR 1, eI (ρ (i + 1).toNat), eR 98]) rfl rfl rfl ?_
  have w14 : ev_w (i + 2) = (i + 2) := ev_w_in (by omega) (by omega)
  refine w_s (np := 616) (lv' := [some (eR 1), some (eR 64), some (eR 98), some (eI (i))]) (st' := [eI (i + 2), eR 1, eI (ρ (i + 1).toNat), eR 98]) rfl (congrArg (fun q : Int => (some ([some (eR 1), some (eR 64), some (eR 98), some (eI (i))], eI q :: [eR 1, eI (ρ (i + 1).toNat), eR 98]) : Option (List (Option eV) × List eV))) w14) rfl ?_
  refine w_al (np := 617) (v := ρ (i + 2).toNat) rfl rfl (lw_sc hL (by omega) (by omega)) ?_
  refine w_s (np := 618) (lv' := [some (eR 1), some (eR 64), some (eR 98), some (eI (i))]) (st' := [eR 1, eI (ρ (i + 2).toNat), eI (ρ (i + 1).toNat), eR 98]) rfl rfl rfl ?_
  refine w_s (np := 619) (lv' := [some (eR 1), some (eR 64), some (eR 98), some (eI (i))]) (st' := [eI (i), eR 1, eI (ρ (i + 2).toNat), eI (ρ (i + 1).toNat), eR 98]) rfl rfl rfl ?_
  refine w_s (np := 620) (lv' := [some (eR 1), some (eR 64), some (eR 98), some (eI (i))]) (st' := [eI (3), eI (i), eR 1, eI (ρ (i + 2).toNat), eI (ρ (i + 1).toNat), eR 98]) rfl rfl rfl ?_
  have w15 : ev_w (i + 3) = (i + 3) := ev_w_in (by omega) (by omega)
  refine w_s (np := 621) (lv' := [some (eR 1), some (eR 64), some (eR 98), some (eI (i))]) (st' := [eI (i + 3), eR 1, eI (ρ (i + 2).toNat), eI (ρ (i + 1).toNat), eR 98]) rfl (congrArg (fun q : Int => (some ([some (eR 1), some (eR 64), some (eR 98), some (eI (i))], eI q :: [eR 1, eI (ρ (i + 2).toNat), eI (ρ (i + 1).toNat), eR 98]) : Option (List (Option eV) × List eV))) w15) rfl ?_
  refine w_al (np := 622) (v := ρ (i + 3).toNat) rfl rfl (lw_sc hL (by omega) (by omega)) ?_
  refine w_s (np := 623) (lv' := [some (eR 1), some (eR 64), some (eR 98), some (eI (i))]) (st' := [eR 1, eI (ρ (i + 3).toNat), eI (ρ (i + 2).toNat), eI (ρ (i + 1).toNat), eR 98]) rfl rfl rfl ?_
  refine w_s (np := 624) (lv' := [some (eR 1), some (eR 64), some (eR 98), some (eI (i))]) (st' := [eI (i), eR 1, eI (ρ (i + 3).toNat), eI (ρ (i + 2).toNat), eI (ρ (i + 1).toNat), eR 98]) rfl rfl rfl ?_
  refine w_s (np := 625) (lv' := [some (eR 1), some (eR 64), some (eR 98), some (eI (i))]) (st' := [eI (4), eI (i), eR 1, eI (ρ (i + 3).toNat), eI (ρ (i + 2).toNat), eI (ρ (i + 1).toNat), eR 98]) rfl rfl rfl ?_
  have w16 : ev_w (i + 4) = (i + 4) := ev_w_in (by omega) (by omega)
  refine w_s (np := 626) (lv' := [some (eR 1), some (eR 64), some (eR 98), some (eI (i))]) (st' := [eI (i + 4), eR 1, eI (ρ (i + 3).toNat), eI (ρ (i + 2).toNat), eI (ρ (i + 1).toNat), eR 98]) rfl (congrArg (fun q : Int => (some ([some (eR 1), some (eR 64), some (eR 98), some (eI (i))], eI q :: [eR 1, eI (ρ (i + 3).toNat), eI (ρ (i + 2).toNat), eI (ρ (i + 1).toNat), eR 98]) : Option (List (Option eV) × List eV))) w16) rfl ?_
  refine w_al (np := 627) (v := ρ (i + 4).toNat) rfl rfl (lw_sc hL (by omega) (by omega)) ?_
  refine w_cw (np := 630) (as := [eI (ρ (i + 1).toNat), eI (ρ (i + 2).toNat), eI (ρ (i + 3).toNat), eI (ρ (i + 4).toNat)]) (l2 := [some (eR 98), some (eI (ρ (i + 1).toNat)), some (eI (ρ (i + 2).toNat)), some (eI (ρ (i + 3).toNat)), some (eI (ρ (i + 4).toNat)), none, none, none, none]) (rest := []) rfl rfl rfl (Nat.ble_eq.mp rfl) rfl rfl rfl (I8.kd g98 (by decide) (n := 69) rfl) rfl ?_
  refine s_274 (a1 := ρ (i + 1).toNat) (a2 := ρ (i + 2).toNat) (a3 := ρ (i + 3).toNat) (a4 := ρ (i + 4).toNat) I8 g98 (hρ _) (hρ _) (hρ _) (hρ _)  ?_
  intro m19 v17 I20 F21 b18
  have p22 : RP g m19 := RP.fr p10 F21 rfl
  have b23 := HB.fr b11 g64 F21 rfl
  have e24 : m19.1 64 10 = m7.1 64 10 := F21.k rfl g64 (by decide) rfl
  show ex_q (dt_fg L ρ) rc (d + 14, (0, 630, [some (eR 1), some (eR 64), some (eR 98), some (eI (i))], [eI v17]), F, m19)
  refine w_s (np := 631) (lv' := [some (eR 1), some (eR 64), some (eR 98), some (eI (i))]) (st' := []) rfl rfl rfl ?_
  refine w_go (t1 := 1788) rfl rfl ?_
  exact K g m19 (GP.r hI.1) I20 p22 b23 (by have h0z := F9.1; have h1z := F21.1; omega) (Or.inl ⟨(by have h0z := F9.2.1; have h1z := F21.2.1; omega), fun q => (by rw [e24, e12]; exact q)⟩)
theorem o_12 {L : Nat} {ρ : Nat → Int} {rc : eQ} {d : Nat} {F : List eFr} {μ : eM} {g : Nat → Nat} {i : Int} (hL : L ≤ 4096) (hρ : ∀ j, -2147483648 ≤ ρ j ∧ ρ j ≤ 2147483647) (hi : 0 ≤ i ∧ i + 8 ≤ (L : Int)) (hI : SI g μ) (g64 : g 64 = 1) (g98 : g 98 = 52) (hP : RP g μ) (hB : HB g μ 64) (K : ∀ (g2 : Nat → Nat) (m : eM), GP g g2 → SI g2 m → RP g2 m → HB g2 m 64 → m.2.1.length ≤ μ.2.1.length + 250 → (m.2.2 ≤ μ.2.2 + 10281 ∧ (μ.1 64 10 ≠ 0 → m.1 64 10 ≠ 0) ∨ μ.1 64 10 = 0 ∧ m.1 64 10 ≠ 0 ∧ m.2.2 ≤ μ.2.2 + 19700) → ex_q (dt_fg L ρ) rc (d + 14, (0, 1788, [some (eR 1), some (eR 64), some (eR 98), some (eI (i))], []), F, m)) : ex_q (dt_fg L ρ) rc (d + 14, (0, 634, [some (eR 1), some (eR 64), some (eR 98), some (eI (i))], []), F, μ) := by
  refine w_s (np := 635) (lv' := [some (eR 1), some (eR 64), some (eR 98), some (eI (i))]) (st' := [eR 64]) rfl rfl rfl ?_
  refine w_s (np := 636) (lv' := [some (eR 1), some (eR 64), some (eR 98), some (eI (i))]) (st' := [eR 1, eR 64]) rfl rfl rfl ?_
  refine w_s (np := 637) (lv' := [some (eR 1), some (eR 64), some (eR 98), some (eI (i))]) (st' := [eI (i), eR 1, eR 64]) rfl rfl rfl ?_
  refine w_s (np := 638) (lv' := [some (eR 1), some (eR 64), some (eR 98), some (eI (i))]) (st' := [eI (1), eI (i), eR 1, eR 64]) rfl rfl rfl ?_
  have w1 : ev_w (i + 1) = (i + 1) := ev_w_in (by omega) (by omega)
  refine w_s (np := 639) (lv' := [some (eR 1), some (eR 64), some (eR 98), some (eI (i))]) (st' := [eI (i + 1), eR 1, eR 64]) rfl (congrArg (fun q : Int => (some ([some (eR 1), some (eR 64), some (eR 98), some (eI (i))], eI q :: [eR 1, eR 64]) : Option (List (Option eV) × List eV))) w1) rfl ?_
  refine w_al (np := 640) (v := ρ (i + 1).toNat) rfl rfl (lw_sc hL (by omega) (by omega)) ?_
  refine w_s (np := 641) (lv' := [some (eR 1), some (eR 64), some (eR 98), some (eI (i))]) (st' := [eR 1, eI (ρ (i + 1).toNat), eR 64]) rfl rfl rfl ?_
  refine w_s (np := 642) (lv' := [some (eR 1), some (eR 64), some (eR 98), some (eI (i))]) (st' := [eI (i), eR 1, eI (ρ (i + 1).toNat), eR 64]) rfl rfl rfl ?_
  refine w_s (np := 643) (lv' := [some (eR 1), some (eR 64), some (eR 98), some (eI (i))]) (st' := [eI (2), eI (i), eR 1, eI (ρ (i + 1).toNat), eR 64]) rfl rfl rfl ?_
  have w2 : ev_w (i + 2) = (i + 2) := ev_w_in (by omega) (by omega)
  refine w_s (np := 644) (lv' := [some (eR 1), some (eR 64), some (eR 98), some (eI (i))]) (st' := [eI (i + 2), eR 1, eI (ρ (i + 1).toNat), eR 64]) rfl (congrArg (fun q : Int => (some ([some (eR 1), some (eR 64), some (eR 98), some (eI (i))], eI q :: [eR 1, eI (ρ (i + 1).toNat), eR 64]) : Option (List (Option eV) × List eV))) w2) rfl ?_
  refine w_al (np := 645) (v := ρ (i + 2).toNat) rfl rfl (lw_sc hL (by omega) (by omega)) ?_
  refine w_s (np := 646) (lv' := [some (eR 1), some (eR 64), some (eR 98), some (eI (i))]) (st' := [eR 1, eI (ρ (i + 2).toNat), eI (ρ (i + 1).toNat), eR 64]) rfl rfl rfl ?_
  refine w_s (np := 647) (lv' := [some (eR 1), some (eR 64), some (eR 98), some (eI (i))]) (st' := [eI (i), eR 1, eI (ρ (i + 2).toNat), eI (ρ (i + 1).toNat), eR 64]) rfl rfl rfl ?_
  refine w_s (np := 648) (lv' := [some (eR 1), some (eR 64), some (eR 98), some (eI (i))]) (st' := [eI (3), eI (i), eR 1, eI (ρ (i + 2).toNat), eI (ρ (i + 1).toNat), eR 64]) rfl rfl rfl ?_
  have w3 : ev_w (i + 3) = (i + 3) := ev_w_in (by omega) (by omega)
  refine w_s (np := 649) (lv' := [some (eR 1), some (eR 64), some (eR 98), some (eI (i))]) (st' := [eI (i + 3), eR 1, eI (ρ (i + 2).toNat), eI (ρ (i + 1).toNat), eR 64]) rfl (congrArg (fun q : Int => (some ([some (eR 1), some (eR 64), some (eR 98), some (eI (i))], eI q :: [eR 1, eI (ρ (i + 2).toNat), eI (ρ (i + 1).toNat), eR 64]) : Option (List (Option eV) × List eV))) w3) rfl ?_
  refine w_al (np := 650) (v := ρ (i + 3).toNat) rfl rfl (lw_sc hL (by omega) (by omega)) ?_
  refine w_cw (np := 653) (as := [eI (ρ (i + 1).toNat), eI (ρ (i + 2).toNat), eI (ρ (i + 3).toNat)]) (l2 := [some (eR 64), some (eI (ρ (i + 1).toNat)), some (eI (ρ (i + 2).toNat)), some (eI (ρ (i + 3).toNat)), none, none]) (rest := []) rfl rfl rfl (Nat.ble_eq.mp rfl) rfl rfl rfl (hI.kd g64 (by decide) (n := 14) rfl) rfl ?_
  refine s_167 (a1 := ρ (i + 1).toNat) (a2 := ρ (i + 2).toNat) (a3 := ρ (i + 3).toNat) hI g64 (hρ _) (hρ _) (hρ _)  ?_
  intro m6 v4 I7 F8 b5
  have p9 : RP g m6 := RP.fr hP F8 rfl
  have b10 := HB.fr hB g64 F8 rfl
  have e11 : m6.1 64 10 = μ.1 64 10 := F8.k rfl g64 (by decide) rfl
  show ex_q (dt_fg L ρ) rc (d + 14, (0, 653, [some (eR 1), some (eR 64), some (eR 98), some (eI (i))], [eI v4]), F, m6)
  refine w_s (np := 654) (lv' := [some (eR 1), some (eR 64), some (eR 98), some (eI (i))]) (st' := []) rfl rfl rfl ?_
  refine w_s (np := 655) (lv' := [some (eR 1), some (eR 64), some (eR 98), some (eI (i))]) (st' := [eR 98]) rfl rfl rfl ?_
  refine w_s (np := 656) (lv' := [some (eR 1), some (eR 64), some (eR 98), some (eI (i))]) (st' := [eR 1, eR 98]) rfl rfl rfl ?_
  refine w_s (np := 657) (lv' := [some (eR 1), some (eR 64), some (eR 98), some (eI (i))]) (st' := [eI (i), eR 1, eR 98]) rfl rfl rfl ?_
  refine w_s (np := 658) (lv' := [some (eR 1), some (eR 64), some (eR 98), some (eI (i))]) (st' := [eI (1), eI (i), eR 1, eR 98]) rfl rfl rfl ?_
  have w12 : ev_w (i + 1) = (i + 1) := ev_w_in (by omega) (by omega)
  refine w_s (np := 659) (lv' := [some (eR 1), some (eR 64), some (eR 98), some (eI (i))]) (st' := [eI (i + 1), eR 1, eR 98]) rfl (congrArg (fun q : Int => (some ([some (eR 1), some (eR 64), some (eR 98), some (eI (i))], eI q :: [eR 1, eR 98]) : Option (List (Option eV) × List eV))) w12) rfl ?_
  refine w_al (np := 660) (v := ρ (i + 1).toNat) rfl rfl (lw_sc hL (by omega) (by omega)) ?_
  refine w_s (np := 661) (lv' := [some (eR 1), some (eR 64), some (eR 98), some (eI (i))]) (st' := [eR 1, eI (ρ (i + 1).toNat), eR 98]) rfl rfl rfl ?_
  refine w_s (np := 662) (lv' := [some (eR 1), some (eR 64), some (eR 98), some (eI (i))]) (st' := [eI (i), eR 1, eI (ρ (i + 1).toNat), eR 98]) rfl rfl rfl ?_
  refine w_s (np := 663) (lv' := [some (eR 1), some (eR 64), some (eR 98), some (eI (i))]) (st' := [eI (2), eI (i), eR 1, eI (ρ (i + 1).toNat), eR 98]) rfl rfl rfl ?_
  have w13 : ev_w (i + 2) = (i + 2) := ev_w_in (by omega) (by omega)
  refine w_s (np := 664) (lv' := [some (eR 1), some (eR 64), some (eR 98), some (eI (i))]) (st' := [eI (i + 2), eR 1, eI (ρ (i + 1).toNat), eR 98]) rfl (congrArg (fun q : Int => (some ([some (eR 1), some (eR 64), some (eR 98), some (eI (i))], eI q :: [eR 1, eI (ρ (i + 1).toNat), eR 98]) : Option (List (Option eV) × List eV))) w13) rfl ?_
  refine w_al (np := 665) (v := ρ (i + 2).toNat) rfl rfl (lw_sc hL (by omega) (by omega)) ?_
  refine w_s (np := 666) (lv' := [some (eR 1), some (eR 64), some (eR 98), some (eI (i))]) (st' := [eR 1, eI (ρ (i + 2).toNat), eI (ρ (i + 1).toNat), eR 98]) rfl rfl rfl ?_
  refine w_s (np := 667) (lv' := [some (eR 1), some (eR 64), some (eR 98), some (eI (i))]) (st' := [eI (i), eR 1, eI (ρ (i + 2).toNat), eI (ρ (i + 1).toNat), eR 98]) rfl rfl rfl ?_
  refine w_s (np := 668) (lv' := [some (eR 1), some (eR 64), some (eR 98), some (eI (i))]) (st' := [eI (3), eI (i), eR 1, eI (ρ (i + 2).toNat), eI (ρ (i + 1).toNat), eR 98]) rfl rfl rfl ?_
  have w14 : ev_w (i + 3) = (i + 3) := ev_w_in (by omega) (by omega)
  refine w_s (np := 669) (lv' := [some (eR 1), some (eR 64), some (eR 98), some (eI (i))]) (st' := [eI (i + 3), eR 1, eI (ρ (i + 2).toNat), eI (ρ (i + 1).toNat), eR 98]) rfl (congrArg (fun q : Int => (some ([some (eR 1), some (eR 64), some (eR 98), some (eI (i))], eI q :: [eR 1, eI (ρ (i + 2).toNat), eI (ρ (i + 1).toNat), eR 98]) : Option (List (Option eV) × List eV))) w14) rfl ?_
  refine w_al (np := 670) (v := ρ (i + 3).toNat) rfl rfl (lw_sc hL (by omega) (by omega)) ?_
  refine w_cw (np := 673) (as := [eI (ρ (i + 1).toNat), eI (ρ (i + 2).toNat), eI (ρ (i + 3).toNat)]) (l2 := [some (eR 98), some (eI (ρ (i + 1).toNat)), some (eI (ρ (i + 2).toNat)), some (eI (ρ (i + 3).toNat))]) (rest := []) rfl rfl rfl (Nat.ble_eq.mp rfl) rfl rfl rfl (I7.kd g98 (by decide) (n := 69) rfl) rfl ?_
  refine s_275 (a1 := ρ (i + 1).toNat) (a2 := ρ (i + 2).toNat) (a3 := ρ (i + 3).toNat) I7 g98 (hρ _) (hρ _) (hρ _)  ?_
  intro m17 v15 I18 F19 b16
  have p20 : RP g m17 := RP.fr p9 F19 rfl
  have b21 := HB.fr b10 g64 F19 rfl
  have e22 : m17.1 64 10 = m6.1 64 10 := F19.k rfl g64 (by decide) rfl
  show ex_q (dt_fg L ρ) rc (d + 14, (0, 673, [some (eR 1), some (eR 64), some (eR 98), some (eI (i))], [eI v15]), F, m17)
  refine w_s (np := 674) (lv' := [some (eR 1), some (eR 64), some (eR 98), some (eI (i))]) (st' := []) rfl rfl rfl ?_
  refine w_go (t1 := 1788) rfl rfl ?_
  exact K g m17 (GP.r hI.1) I18 p20 b21 (by have h0z := F8.1; have h1z := F19.1; omega) (Or.inl ⟨(by have h0z := F8.2.1; have h1z := F19.2.1; omega), fun q => (by rw [e22, e11]; exact q)⟩)
theorem o_13 {L : Nat} {ρ : Nat → Int} {rc : eQ} {d : Nat} {F : List eFr} {μ : eM} {g : Nat → Nat} {i : Int} (hL : L ≤ 4096) (hρ : ∀ j, -2147483648 ≤ ρ j ∧ ρ j ≤ 2147483647) (hi : 0 ≤ i ∧ i + 8 ≤ (L : Int)) (hI : SI g μ) (g64 : g 64 = 1) (g98 : g 98 = 52) (hP : RP g μ) (hB : HB g μ 64) (K : ∀ (g2 : Nat → Nat) (m : eM), GP g g2 → SI g2 m → RP g2 m → HB g2 m 64 → m.2.1.length ≤ μ.2.1.length + 250 → (m.2.2 ≤ μ.2.2 + 10281 ∧ (μ.1 64 10 ≠ 0 → m.1 64 10 ≠ 0) ∨ μ.1 64 10 = 0 ∧ m.1 64 10 ≠ 0 ∧ m.2.2 ≤ μ.2.2 + 19700) → ex_q (dt_fg L ρ) rc (d + 14, (0, 1788, [some (eR 1), some (eR 64), some (eR 98), some (eI (i))], []), F, m)) : ex_q (dt_fg L ρ) rc (d + 14, (0, 677, [some (eR 1), some (eR 64), some (eR 98), some (eI (i))], []), F, μ) := by
  refine w_s (np := 678) (lv' := [some (eR 1), some (eR 64), some (eR 98), some (eI (i))]) (st' := [eR 64]) rfl rfl rfl ?_
  refine w_s (np := 679) (lv' := [some (eR 1), some (eR 64), some (eR 98), some (eI (i))]) (st' := [eR 1, eR 64]) rfl rfl rfl ?_
  refine w_s (np := 680) (lv' := [some (eR 1), some (eR 64), some (eR 98), some (eI (i))]) (st' := [eI (i), eR 1, eR 64]) rfl rfl rfl ?_
  refine w_s (np := 681) (lv' := [some (eR 1), some (eR 64), some (eR 98), some (eI (i))]) (st' := [eI (1), eI (i), eR 1, eR 64]) rfl rfl rfl ?_
  have w1 : ev_w (i + 1) = (i + 1) := ev_w_in (by omega) (by omega)
  refine w_s (np := 682) (lv' := [some (eR 1), some (eR 64), some (eR 98), some (eI (i))]) (st' := [eI (i + 1), eR 1, eR 64]) rfl (congrArg (fun q : Int => (some ([some (eR 1), some (eR 64), some (eR 98), some (eI (i))], eI q :: [eR 1, eR 64]) : Option (List (Option eV) × List eV))) w1) rfl ?_
  refine w_al (np := 683) (v := ρ (i + 1).toNat) rfl rfl (lw_sc hL (by omega) (by omega)) ?_
  refine w_s (np := 684) (lv' := [some (eR 1), some (eR 64), some (eR 98), some (eI (i))]) (st' := [eR 1, eI (ρ (i + 1).toNat), eR 64]) rfl rfl rfl ?_
  refine w_s (np := 685) (lv' := [some (eR 1), some (eR 64), some (eR 98), some (eI (i))]) (st' := [eI (i), eR 1, eI (ρ (i + 1).toNat), eR 64]) rfl rfl rfl ?_
  refine w_s (np := 686) (lv' := [some (eR 1), some (eR 64), some (eR 98), some (eI (i))]) (st' := [eI (2), eI (i), eR 1, eI (ρ (i + 1).toNat), eR 64]) rfl rfl rfl ?_
  have w2 : ev_w (i + 2) = (i + 2) := ev_w_in (by omega) (by omega)
  refine w_s (np := 687) (lv' := [some (eR 1), some (eR 64), some (eR 98), some (eI (i))]) (st' := [eI (i + 2), eR 1, eI (ρ (i + 1).toNat), eR 64]) rfl (congrArg (fun q : Int => (some ([some (eR 1), some (eR 64), some (eR 98), some (eI (i))], eI q :: [eR 1, eI (ρ (i + 1).toNat), eR 64]) : Option (List (Option eV) × List eV))) w2) rfl ?_
  refine w_al (np := 688) (v := ρ (i + 2).toNat) rfl rfl (lw_sc hL (by omega) (by omega)) ?_
  refine w_s (np := 689) (lv' := [some (eR 1), some (eR 64), some (eR 98), some (eI (i))]) (st' := [eR 1, eI (ρ (i + 2).toNat), eI (ρ (i + 1).toNat), eR 64]) rfl rfl rfl ?_
  refine w_s (np := 690) (lv' := [some (eR 1), some (eR 64), some (eR 98), some (eI (i))]) (st' := [eI (i), eR 1, eI (ρ (i + 2).toNat), eI (ρ (i + 1).toNat), eR 64]) rfl rfl rfl ?_
  refine w_s (np := 691) (lv' := [some (eR 1), some (eR 64), some (eR 98), some (eI (i))]) (st' := [eI (3), eI (i), eR 1, eI (ρ (i + 2).toNat), eI (ρ (i + 1).toNat), eR 64]) rfl rfl rfl ?_
  have w3 : ev_w (i + 3) = (i + 3) := ev_w_in (by omega) (by omega)
  refine w_s (np := 692) (lv' := [some (eR 1), some (eR 64), some (eR 98), some (eI (i))]) (st' := [eI (i + 3), eR 1, eI (ρ (i + 2).toNat), eI (ρ (i + 1).toNat), eR 64]) rfl (congrArg (fun q : Int => (some ([some (eR 1), some (eR 64), some (eR 98), some (eI (i))], eI q :: [eR 1, eI (ρ (i + 2).toNat), eI (ρ (i + 1).toNat), eR 64]) : Option (List (Option eV) × List eV))) w3) rfl ?_
  refine w_al (np := 693) (v := ρ (i + 3).toNat) rfl rfl (lw_sc hL (by omega) (by omega)) ?_
  refine w_cw (np := 696) (as := [eI (ρ (i + 1).toNat), eI (ρ (i + 2).toNat), eI (ρ (i + 3).toNat)]) (l2 := [some (eR 64), some (eI (ρ (i + 1).toNat)), some (eI (ρ (i + 2).toNat)), some (eI (ρ (i + 3).toNat)), none, none]) (rest := []) rfl rfl rfl (Nat.ble_eq.mp rfl) rfl rfl rfl (hI.kd g64 (by decide) (n := 14) rfl) rfl ?_
  refine s_168 (a1 := ρ (i + 1).toNat) (a2 := ρ (i + 2).toNat) (a3 := ρ (i + 3).toNat) hI g64 (hρ _) (hρ _) (hρ _)  ?_
  intro m6 v4 I7 F8 b5
  have p9 : RP g m6 := RP.fr hP F8 rfl
  have b10 := HB.fr hB g64 F8 rfl
  have e11 : m6.1 64 10 = μ.1 64 10 := F8.k rfl g64 (by decide) rfl
  show ex_q (dt_fg L ρ) rc (d + 14, (0, 696, [some (eR 1), some (eR 64), some (eR 98), some (eI (i))], [eI v4]), F, m6)
  refine w_s (np := 697) (lv' := [some (eR 1), some (eR 64), some (eR 98), some (eI (i))]) (st' := []) rfl rfl rfl ?_
  refine w_s (np := 698) (lv' := [some (eR 1), some (eR 64), some (eR 98), some (eI (i))]) (st' := [eR 98]) rfl rfl rfl ?_
  refine w_s (np := 699) (lv' := [some (eR 1), some (eR 64), some (eR 98), some (eI (i))]) (st' := [eR 1, eR 98]) rfl rfl rfl ?_
  refine w_s (np := 700) (lv' := [some (eR 1), some (eR 64), some (eR 98), some (eI (i))]) (st' := [eI (i), eR 1, eR 98]) rfl rfl rfl ?_
  refine w_s (np := 701) (lv' := [some (eR 1), some (eR 64), some (eR 98), some (eI (i))]) (st' := [eI (1), eI (i), eR 1, eR 98]) rfl rfl rfl ?_
  have w12 : ev_w (i + 1) = (i + 1) := ev_w_in (by omega) (by omega)
  refine w_s (np := 702) (lv' := [some (eR 1), some (eR 64), some (eR 98), some (eI (i))]) (st' := [eI (i + 1), eR 1, eR 98]) rfl (congrArg (fun q : Int => (some ([some (eR 1), some (eR 64), some (eR 98), some (eI (i))], eI q :: [eR 1, eR 98]) : Option (List (Option eV) × List eV))) w12) rfl ?_
  refine w_al (np := 703) (v := ρ (i + 1).toNat) rfl rfl (lw_sc hL (by omega) (by omega)) ?_
  refine w_s (np := 704) (lv' := [some (eR 1), some (eR 64), some (eR 98), some (eI (i))]) (st' := [eR 1, eI (ρ (i + 1).toNat), eR 98]) rfl rfl rfl ?_
  refine w_s (np := 705) (lv' := [some (eR 1), some (eR 64), some (eR 98), some (eI (i))]) (st' := [eI (i), eR 1, eI (ρ (i + 1).toNat), eR 98]) rfl rfl rfl ?_
  refine w_s (np := 706) (lv' := [some (eR 1), some (eR 64), some (eR 98), some (eI (i))]) (st' := [eI (2), eI (i), eR 1, eI (ρ (i + 1).toNat), eR 98]) rfl rfl rfl ?_
  have w13 : ev_w (i + 2) = (i + 2) := ev_w_in (by omega) (by omega)
  refine w_s (np := 707) (lv' := [some (eR 1), some (eR 64), some (eR 98), some (eI (i))]) (st' := [eI (i + 2), eR 1, eI (ρ (i + 1).toNat), eR 98]) rfl (congrArg (fun q : Int => (some ([some (eR 1), some (eR 64), some (eR 98), some (eI (i))], eI q :: [eR 1, eI (ρ (i + 1).toNat), eR 98]) : Option (List (Option eV) × List eV))) w13) rfl ?_
  refine w_al (np := 708) (v := ρ (i + 2).toNat) rfl rfl (lw_sc hL (by omega) (by omega)) ?_
  refine w_s (np := 709) (lv' := [some (eR 1), some (eR 64), some (eR 98), some (eI (i))]) (st' := [eR 1, eI (ρ (i + 2).toNat), eI (ρ (i + 1).toNat), eR 98]) rfl rfl rfl ?_
  refine w_s (np := 710) (lv' := [some (eR 1), some (eR 64), some (eR 98), some (eI (i))]) (st' := [eI (i), eR 1, eI (ρ (i + 2).toNat), eI (ρ (i + 1).toNat), eR 98]) rfl rfl rfl ?_
  refine w_s (np := 711) (lv' := [some (eR 1), some (eR 64), some (eR 98), some (eI (i))]) (st' := [eI (3), eI (i), eR 1, eI (ρ (i + 2).toNat), eI (ρ (i + 1).toNat), eR 98]) rfl rfl rfl ?_
  have w14 : ev_w (i + 3) = (i + 3) := ev_w_in (by omega) (by omega)
  refine w_s (np := 712) (lv' := [some (eR 1), some (eR 64), some (eR 98), some (eI (i))]) (st' := [eI (i + 3), eR 1, eI (ρ (i + 2).toNat), eI (ρ (i + 1).toNat), eR 98]) rfl (congrArg (fun q : Int => (some ([some (eR 1), some (eR 64), some (eR 98), some (eI (i))], eI q :: [eR 1, eI (ρ (i + 2).toNat), eI (ρ (i + 1).toNat), eR 98]) : Option (List (Option eV) × List eV))) w14) rfl ?_
  refine w_al (np := 713) (v := ρ (i + 3).toNat) rfl rfl (lw_sc hL (by omega) (by omega)) ?_
  refine w_cw (np := 716) (as := [eI (ρ (i + 1).toNat), eI (ρ (i + 2).toNat), eI (ρ (i + 3).toNat)]) (l2 := [some (eR 98), some (eI (ρ (i + 1).toNat)), some (eI (ρ (i + 2).toNat)), some (eI (ρ (i + 3).toNat)), none, none, none, none, none]) (rest := []) rfl rfl rfl (Nat.ble_eq.mp rfl) rfl rfl rfl (I7.kd g98 (by decide) (n := 69) rfl) rfl ?_
  refine s_276 (a1 := ρ (i + 1).toNat) (a2 := ρ (i + 2).toNat) (a3 := ρ (i + 3).toNat) I7 g98 (hρ _) (hρ _) (hρ _)  ?_
  intro m17 v15 I18 F19 b16
  have p20 : RP g m17 := RP.fr p9 F19 rfl
  have b21 := HB.fr b10 g64 F19 rfl
  have e22 : m17.1 64 10 = m6.1 64 10 := F19.k rfl g64 (by decide) rfl
  show ex_q (dt_fg L ρ) rc (d + 14, (0, 716, [some (eR 1), some (eR 64), some (eR 98), some (eI (i))], [eI v15]), F, m17)
  refine w_s (np := 717) (lv' := [some (eR 1), some (eR 64), some (eR 98), some (eI (i))]) (st' := []) rfl rfl rfl ?_
  refine w_go (t1 := 1788) rfl rfl ?_
  exact K g m17 (GP.r hI.1) I18 p20 b21 (by have h0z := F8.1; have h1z := F19.1; omega) (Or.inl ⟨(by have h0z := F8.2.1; have h1z := F19.2.1; omega), fun q => (by rw [e22, e11]; exact q)⟩)
theorem o_14 {L : Nat} {ρ : Nat → Int} {rc : eQ} {d : Nat} {F : List eFr} {μ : eM} {g : Nat → Nat} {i : Int} (hL : L ≤ 4096) (hρ : ∀ j, -2147483648 ≤ ρ j ∧ ρ j ≤ 2147483647) (hi : 0 ≤ i ∧ i + 8 ≤ (L : Int)) (hI : SI g μ) (g64 : g 64 = 1) (g98 : g 98 = 52) (hP : RP g μ) (hB : HB g μ 64) (K : ∀ (g2 : Nat → Nat) (m : eM), GP g g2 → SI g2 m → RP g2 m → HB g2 m 64 → m.2.1.length ≤ μ.2.1.length + 250 → (m.2.2 ≤ μ.2.2 + 10281 ∧ (μ.1 64 10 ≠ 0 → m.1 64 10 ≠ 0) ∨ μ.1 64 10 = 0 ∧ m.1 64 10 ≠ 0 ∧ m.2.2 ≤ μ.2.2 + 19700) → ex_q (dt_fg L ρ) rc (d + 14, (0, 1788, [some (eR 1), some (eR 64), some (eR 98), some (eI (i))], []), F, m)) : ex_q (dt_fg L ρ) rc (d + 14, (0, 720, [some (eR 1), some (eR 64), some (eR 98), some (eI (i))], []), F, μ) := by
  refine w_s (np := 721) (lv' := [some (eR 1), some (eR 64), some (eR 98), some (eI (i))]) (st' := [eR 64]) rfl rfl rfl ?_
  refine w_s (np := 722) (lv' := [some (eR 1), some (eR 64), some (eR 98), some (eI (i))]) (st' := [eR 1, eR 64]) rfl rfl rfl ?_
  refine w_s (np := 723) (lv' := [some (eR 1), some (eR 64), some (eR 98), some (eI (i))]) (st' := [eI (i), eR 1, eR 64]) rfl rfl rfl ?_
  refine w_s (np := 724) (lv' := [some (eR 1), some (eR 64), some (eR 98), some (eI (i))]) (st' := [eI (1), eI (i), eR 1, eR 64]) rfl rfl rfl ?_
  have w1 : ev_w (i + 1) = (i + 1) := ev_w_in (by omega) (by omega)
  refine w_s (np := 725) (lv' := [some (eR 1), some (eR 64), some (eR 98), some (eI (i))]) (st' := [eI (i + 1), eR 1, eR 64]) rfl (congrArg (fun q : Int => (some ([some (eR 1), some (eR 64), some (eR 98), some (eI (i))], eI q :: [eR 1, eR 64]) : Option (List (Option eV) × List eV))) w1) rfl ?_
  refine w_al (np := 726) (v := ρ (i + 1).toNat) rfl rfl (lw_sc hL (by omega) (by omega)) ?_
  refine w_cw (np := 729) (as := [eI (ρ (i + 1).toNat)]) (l2 := [some (eR 64), some (eI (ρ (i + 1).toNat)), none]) (rest := []) rfl rfl rfl (Nat.ble_eq.mp rfl) rfl rfl rfl (hI.kd g64 (by decide) (n := 14) rfl) rfl ?_
  refine s_169 (a1 := ρ (i + 1).toNat) hI g64 (hρ _)  ?_
  intro m4 v2 I5 F6 b3
  have p7 : RP g m4 := RP.fr hP F6 rfl
  have b8 := HB.fr hB g64 F6 rfl
  have e9 : m4.1 64 10 = μ.1 64 10 := F6.k rfl g64 (by decide) rfl
  show ex_q (dt_fg L ρ) rc (d + 14, (0, 729, [some (eR 1), some (eR 64), some (eR 98), some (eI (i))], [eI v2]), F, m4)
  refine w_s (np := 730) (lv' := [some (eR 1), some (eR 64), some (eR 98), some (eI (i))]) (st' := []) rfl rfl rfl ?_
  refine w_s (np := 731) (lv' := [some (eR 1), some (eR 64), some (eR 98), some (eI (i))]) (st' := [eR 98]) rfl rfl rfl ?_
  refine w_s (np := 732) (lv' := [some (eR 1), some (eR 64), some (eR 98), some (eI (i))]) (st' := [eR 1, eR 98]) rfl rfl rfl ?_
  refine w_s (np := 733) (lv' := [some (eR 1), some (eR 64), some (eR 98), some (eI (i))]) (st' := [eI (i), eR 1, eR 98]) rfl rfl rfl ?_
  refine w_s (np := 734) (lv' := [some (eR 1), some (eR 64), some (eR 98), some (eI (i))]) (st' := [eI (1), eI (i), eR 1, eR 98]) rfl rfl rfl ?_
  have w10 : ev_w (i + 1) = (i + 1) := ev_w_in (by omega) (by omega)
  refine w_s (np := 735) (lv' := [some (eR 1), some (eR 64), some (eR 98), some (eI (i))]) (st' := [eI (i + 1), eR 1, eR 98]) rfl (congrArg (fun q : Int => (some ([some (eR 1), some (eR 64), some (eR 98), some (eI (i))], eI q :: [eR 1, eR 98]) : Option (List (Option eV) × List eV))) w10) rfl ?_
  refine w_al (np := 736) (v := ρ (i + 1).toNat) rfl rfl (lw_sc hL (by omega) (by omega)) ?_
  refine w_cw (np := 739) (as := [eI (ρ (i + 1).toNat)]) (l2 := [some (eR 98), some (eI (ρ (i + 1).toNat)), none]) (rest := []) rfl rfl rfl (Nat.ble_eq.mp rfl) rfl rfl rfl (I5.kd g98 (by decide) (n := 69) rfl) rfl ?_
  refine s_277 (a1 := ρ (i + 1).toNat) I5 g98 (hρ _)  ?_
  intro m13 v11 I14 F15 b12
  have p16 : RP g m13 := RP.fr p7 F15 rfl
  have b17 := HB.fr b8 g64 F15 rfl
  have e18 : m13.1 64 10 = m4.1 64 10 := F15.k rfl g64 (by decide) rfl
  show ex_q (dt_fg L ρ) rc (d + 14, (0, 739, [some (eR 1), some (eR 64), some (eR 98), some (eI (i))], [eI v11]), F, m13)
  refine w_s (np := 740) (lv' := [some (eR 1), some (eR 64), some (eR 98), some (eI (i))]) (st' := []) rfl rfl rfl ?_
  refine w_go (t1 := 1788) rfl rfl ?_
  exact K g m13 (GP.r hI.1) I14 p16 b17 (by have h0z := F6.1; have h1z := F15.1; omega) (Or.inl ⟨(by have h0z := F6.2.1; have h1z := F15.2.1; omega), fun q => (by rw [e18, e9]; exact q)⟩)
theorem o_15 {L : Nat} {ρ : Nat → Int} {rc : eQ} {d : Nat} {F : List eFr} {μ : eM} {g : Nat → Nat} {i : Int} (hL : L ≤ 4096) (hρ : ∀ j, -2147483648 ≤ ρ j ∧ ρ j ≤ 2147483647) (hi : 0 ≤ i ∧ i + 8 ≤ (L : Int)) (hI : SI g μ) (g64 : g 64 = 1) (g98 : g 98 = 52) (hP : RP g μ) (hB : HB g μ 64) (K : ∀ (g2 : Nat → Nat) (m : eM), GP g g2 → SI g2 m → RP g2 m → HB g2 m 64 → m.2.1.length ≤ μ.2.1.length + 250 → (m.2.2 ≤ μ.2.2 + 10281 ∧ (μ.1 64 10 ≠ 0 → m.1 64 10 ≠ 0) ∨ μ.1 64 10 = 0 ∧ m.1 64 10 ≠ 0 ∧ m.2.2 ≤ μ.2.2 + 19700) → ex_q (dt_fg L ρ) rc (d + 14, (0, 1788, [some (eR 1), some (eR 64), some (eR 98), some (eI (i))], []), F, m)) : ex_q (dt_fg L ρ) rc (d + 14, (0, 743, [some (eR 1), some (eR 64), some (eR 98), some (eI (i))], []), F, μ) := by
  refine w_s (np := 744) (lv' := [some (eR 1), some (eR 64), some (eR 98), some (eI (i))]) (st' := [eR 64]) rfl rfl rfl ?_
  refine w_s (np := 745) (lv' := [some (eR 1), some (eR 64), some (eR 98), some (eI (i))]) (st' := [eR 1, eR 64]) rfl rfl rfl ?_
  refine w_s (np := 746) (lv' := [some (eR 1), some (eR 64), some (eR 98), some (eI (i))]) (st' := [eI (i), eR 1, eR 64]) rfl rfl rfl ?_
  refine w_s (np := 747) (lv' := [some (eR 1), some (eR 64), some (eR 98), some (eI (i))]) (st' := [eI (1), eI (i), eR 1, eR 64]) rfl rfl rfl ?_
  have w1 : ev_w (i + 1) = (i + 1) := ev_w_in (by omega) (by omega)
  refine w_s (np := 748) (lv' := [some (eR 1), some (eR 64), some (eR 98), some (eI (i))]) (st' := [eI (i + 1), eR 1, eR 64]) rfl (congrArg (fun q : Int => (some ([some (eR 1), some (eR 64), some (eR 98), some (eI (i))], eI q :: [eR 1, eR 64]) : Option (List (Option eV) × List eV))) w1) rfl ?_
  refine w_al (np := 749) (v := ρ (i + 1).toNat) rfl rfl (lw_sc hL (by omega) (by omega)) ?_
  refine w_cw (np := 752) (as := [eI (ρ (i + 1).toNat)]) (l2 := [some (eR 64), some (eI (ρ (i + 1).toNat))]) (rest := []) rfl rfl rfl (Nat.ble_eq.mp rfl) rfl rfl rfl (hI.kd g64 (by decide) (n := 14) rfl) rfl ?_
  refine s_170 (a1 := ρ (i + 1).toNat) hI g64 (hρ _)  ?_
  intro m4 v2 I5 F6 b3
  have p7 : RP g m4 := RP.fr hP F6 rfl
  have b8 := HB.fr hB g64 F6 rfl
  have e9 : m4.1 64 10 = μ.1 64 10 := F6.k rfl g64 (by decide) rfl
  show ex_q (dt_fg L ρ) rc (d + 14, (0, 752, [some (eR 1), some (eR 64), some (eR 98), some (eI (i))], [eI v2]), F, m4)
  refine w_s (np := 753) (lv' := [some (eR 1), some (eR 64), some (eR 98), some (eI (i))]) (st' := []) rfl rfl rfl ?_
  refine w_s (np := 754) (lv' := [some (eR 1), some (eR 64), some (eR 98), some (eI (i))]) (st' := [eR 98]) rfl rfl rfl ?_
  refine w_s (np := 755) (lv' := [some (eR 1), some (eR 64), some (eR 98), some (eI (i))]) (st' := [eR 1, eR 98]) rfl rfl rfl ?_
  refine w_s (np := 756) (lv' := [some (eR 1), some (eR 64), some (eR 98), some (eI (i))]) (st' := [eI (i), eR 1, eR 98]) rfl rfl rfl ?_
  refine w_s (np := 757) (lv' := [some (eR 1), some (eR 64), some (eR 98), some (eI (i))]) (st' := [eI (1), eI (i), eR 1, eR 98]) rfl rfl rfl ?_
  have w10 : ev_w (i + 1) = (i + 1) := ev_w_in (by omega) (by omega)
  refine w_s (np := 758) (lv' := [some (eR 1), some (eR 64), some (eR 98), some (eI (i))]) (st' := [eI (i + 1), eR 1, eR 98]) rfl (congrArg (fun q : Int => (some ([some (eR 1), some (eR 64), some (eR 98), some (eI (i))], eI q :: [eR 1, eR 98]) : Option (List (Option eV) × List eV))) w10) rfl ?_
  refine w_al (np := 759) (v := ρ (i + 1).toNat) rfl rfl (lw_sc hL (by omega) (by omega)) ?_
  refine w_cw (np := 762) (as := [eI (ρ (i + 1).toNat)]) (l2 := [some (eR 98), some (eI (ρ (i + 1).toNat)), none]) (rest := []) rfl rfl rfl (Nat.ble_eq.mp rfl) rfl rfl rfl (I5.kd g98 (by decide) (n := 69) rfl) rfl ?_
  refine s_278 (a1 := ρ (i + 1).toNat) I5 g98 (hρ _)  ?_
  intro m13 v11 I14 F15 b12
  have p16 : RP g m13 := RP.fr p7 F15 rfl
  have b17 := HB.fr b8 g64 F15 rfl
  have e18 : m13.1 64 10 = m4.1 64 10 := F15.k rfl g64 (by decide) rfl
  show ex_q (dt_fg L ρ) rc (d + 14, (0, 762, [some (eR 1), some (eR 64), some (eR 98), some (eI (i))], [eI v11]), F, m13)
  refine w_s (np := 763) (lv' := [some (eR 1), some (eR 64), some (eR 98), some (eI (i))]) (st' := []) rfl rfl rfl ?_
  refine w_go (t1 := 1788) rfl rfl ?_
  exact K g m13 (GP.r hI.1) I14 p16 b17 (by have h0z := F6.1; have h1z := F15.1; omega) (Or.inl ⟨(by have h0z := F6.2.1; have h1z := F15.2.1; omega), fun q => (by rw [e18, e9]; exact q)⟩)
