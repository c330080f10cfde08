/-! THE REFERENCE: start, its count -/
def l_256n : List Nat := [13313, 13314, 13331, 13315, 13333, 13341, 13342, 13316, 13348, 13317, 13318, 13319, 13320, 13321, 15360, 16640, 13824, 15104, 14848, 15872, 14336, 17408, 17664, 13568, 17152, 14080, 15616, 14592, 16384, 16128, 16896]
theorem s_256n {L : Nat} {ρ : Nat → Int} {rc : eQ} {d : Nat} {f : eFr} {F : List eFr} {μ : eM} {g : Nat → Nat} {a0 : Nat} {a1 : Int} (hI : SI g μ) (gA0 : g a0 = 52) (bA1 : -2147483648 ≤ a1 ∧ a1 ≤ 2147483647) (h_PB : PB g μ) (h_PK : PK g μ) (h_LG : LG g μ) (h_MT : MT g μ) (h_LB : LB g μ) (h_FS : FS g μ) (h_PO : PO g μ) (h_SP : SP g μ) (K : ∀ (μ2 : eM) (v : Int), SI g μ2 → Fr l_256n 0 0 g μ μ2 → (-2147483648 ≤ v ∧ v ≤ 2147483647) → (a1 = 0 ∧ v = 10 ∨ a1 = 1 ∧ v = 1 ∨ a1 = 2 ∧ v = 1 ∨ a1 = 3 ∧ v = 2 ∨ (a1 < 0 ∨ 3 < a1) ∧ v = -1) → PB g μ2 → PK g μ2 → LG g μ2 → MT g μ2 → LB g μ2 → FS g μ2 → PO g μ2 → SP g μ2 → ex_q (dt_fg L ρ) rc (d + 7, (f.1, f.2.1, f.2.2.1, eI v :: f.2.2.2), F, μ2)) : ex_q (dt_fg L ρ) rc (d + 6, (256, 0, [some (eR a0), some (eI (a1))], []), f :: F, μ) := by
  have F0 : Fr l_256n 0 0 g μ μ := Fr.r
  refine w_t (np := 1) (l2 := [some (eR a0), some (eI (a1))]) (s2 := [eR a0]) rfl (s_an rfl (pos_g hI gA0 (by decide))) rfl ?_
  refine w_t (np := 2) (l2 := [some (eR a0), some (eI (a1))]) (s2 := [eI (a1), eR a0]) rfl rfl rfl ?_
  refine w_t (np := 3) (l2 := [some (eR a0), some (eI (a1))]) (s2 := [eI (0), eI (a1), eR a0]) rfl rfl rfl ?_
  refine w_t (np := 4) (l2 := [some (eR a0), some (eI (a1))]) (s2 := [eI (3), eI (0), eI (a1), eR a0]) rfl rfl rfl ?_
  refine w_cu (np := 7) (as := [eI (a1), eI (0), eI (3)]) (l2 := [some (eI (a1)), some (eI (0)), some (eI (3))]) (rest := [eR a0]) rfl rfl rfl (Nat.ble_eq.mp rfl) rfl rfl rfl rfl ?_
  refine w_t (np := 1) (l2 := [some (eI (a1)), some (eI (0)), some (eI (3))]) (s2 := [eI (a1)]) rfl rfl rfl ?_
  refine w_t (np := 2) (l2 := [some (eI (a1)), some (eI (0)), some (eI (3))]) (s2 := [eI (0), eI (a1)]) rfl rfl rfl ?_
  refine b_clt (t1 := 14) (t2 := 5) rfl rfl rfl (ev_w_in (by omega) (by omega)) rfl (fun g1 => ?_) (fun g1 => ?_)
  · have b2 : -2147483648 ≤ a1 ∧ a1 ≤ -1 := by omega
    refine w_t (np := 15) (l2 := [some (eI (a1)), some (eI (0)), some (eI (3))]) (s2 := [eI (0)]) rfl rfl rfl ?_
    refine b_rz rfl rfl (Or.inl rfl) ?_
    show ex_q (dt_fg L ρ) rc (d + 6, (256, 7, [some (eR a0), some (eI (a1))], [eI (0), eR a0]), f :: F, μ)
    refine b_ieq (t1 := 14) (t2 := 10) rfl rfl rfl rfl (fun g2 => ?_) (fun g2 => absurd g2 (by decide))
    refine w_t (np := 15) (l2 := [some (eR a0), some (eI (a1))]) (s2 := [eI (1), eR a0]) rfl rfl rfl ?_
    refine w_cw (np := 18) (as := [eI (1)]) (l2 := [some (eR a0), some (eI (1))]) (rest := []) rfl rfl rfl (Nat.ble_eq.mp rfl) rfl rfl rfl (hI.kd gA0 (by decide) (n := 69) rfl) rfl ?_
    refine w_t (np := 1) (l2 := [some (eR a0), some (eI (1))]) (s2 := [eR a0]) rfl (s_an rfl (pos_g hI gA0 (by decide))) rfl ?_
    refine w_t (np := 2) (l2 := [some (eR a0), some (eI (1))]) (s2 := [eI (0), eR a0]) rfl rfl rfl ?_
    refine j_pf (np := 5) (w := 0) rfl rfl hI gA0 (by decide) (n := 69) rfl rfl (hO_i (lo := -2147483648) (hi := 2147483647) rfl (by decide)) ?_
    intro m3 I4 W5
    have F6 : Fr l_256n 0 0 g μ m3 := F0.w W5 gA0 rfl
    have p7 : PB g m3 := PB.fr h_PB (Fr.f W5 gA0) rfl
    have p8 : PK g m3 := PK.fr h_PK (Fr.f W5 gA0) rfl
    have p9 : LG g m3 := LG.fr h_LG (Fr.f W5 gA0) rfl
    have p10 : MT g m3 := MT.fr h_MT (Fr.f W5 gA0) rfl
    have p11 : LB g m3 := LB.fr h_LB (Fr.f W5 gA0) rfl
    have p12 : FS g m3 := FS.fr h_FS (Fr.f W5 gA0) rfl
    have p13 : PO g m3 := PO.fr h_PO (Fr.f W5 gA0) rfl
    have p14 : SP g m3 := SP.fr h_SP (Fr.f W5 gA0) rfl
    refine w_t (np := 6) (l2 := [some (eR a0), some (eI (1))]) (s2 := [eR a0]) rfl (s_an rfl (pos_g I4 gA0 (by decide))) rfl ?_
    refine w_t (np := 7) (l2 := [some (eR a0), some (eI (1))]) (s2 := [eI (1), eR a0]) rfl rfl rfl ?_
    refine j_pf (np := 10) (w := 1) rfl rfl I4 gA0 (by decide) (n := 69) rfl rfl (hO_i (lo := -2147483648) (hi := 2147483647) rfl (by decide)) ?_
    intro m15 I16 W17
    have F18 : Fr l_256n 0 0 g μ m15 := F6.w W17 gA0 rfl
    have p19 : PB g m15 := PB.fr p7 (Fr.f W17 gA0) rfl
    have p20 : PK g m15 := PK.fr p8 (Fr.f W17 gA0) rfl
    have p21 : LG g m15 := LG.fr p9 (Fr.f W17 gA0) rfl
    have p22 : MT g m15 := MT.fr p10 (Fr.f W17 gA0) rfl
    have p23 : LB g m15 := LB.fr p11 (Fr.f W17 gA0) rfl
    have p24 : FS g m15 := FS.fr p12 (Fr.f W17 gA0) rfl
    have p25 : PO g m15 := PO.fr p13 (Fr.f W17 gA0) rfl
    have p26 : SP g m15 := SP.fr p14 (Fr.f W17 gA0) rfl
    refine w_t (np := 11) (l2 := [some (eR a0), some (eI (1))]) (s2 := [eI (1)]) rfl rfl rfl ?_
    refine b_ine (t1 := 18) (t2 := 14) rfl rfl rfl rfl (fun g27 => ?_) (fun g27 => absurd g27 (by decide))
    refine w_t (np := 19) (l2 := [some (eR a0), some (eI (1))]) (s2 := [eI (0)]) rfl rfl rfl ?_
    refine b_rz rfl rfl (Or.inl rfl) ?_
    show ex_q (dt_fg L ρ) rc (d + 6, (256, 18, [some (eR a0), some (eI (a1))], [eI (0)]), f :: F, m15)
    refine b_ine (t1 := 23) (t2 := 21) rfl rfl rfl rfl (fun g28 => absurd g28 (by decide)) (fun g28 => ?_)
    refine w_t (np := 22) (l2 := [some (eR a0), some (eI (a1))]) (s2 := [eI (-1)]) rfl rfl rfl ?_
    exact b_ri rfl rfl (K m15 (-1) I16 F18 (by decide) (by omega) p19 p20 p21 p22 p23 p24 p25 p26)
  · have b2 : 0 ≤ a1 ∧ a1 ≤ 2147483647 := by omega
    refine w_t (np := 6) (l2 := [some (eI (a1)), some (eI (0)), some (eI (3))]) (s2 := [eI (a1)]) rfl rfl rfl ?_
    refine w_t (np := 7) (l2 := [some (eI (a1)), some (eI (0)), some (eI (3))]) (s2 := [eI (3), eI (a1)]) rfl rfl rfl ?_
    refine b_cgt (t1 := 14) (t2 := 10) rfl rfl rfl (ev_w_in (by omega) (by omega)) rfl (fun g2 => ?_) (fun g2 => ?_)
    · have b3 : 4 ≤ a1 ∧ a1 ≤ 2147483647 := by omega
      refine w_t (np := 15) (l2 := [some (eI (a1)), some (eI (0)), some (eI (3))]) (s2 := [eI (0)]) rfl rfl rfl ?_
      refine b_rz rfl rfl (Or.inl rfl) ?_
      show ex_q (dt_fg L ρ) rc (d + 6, (256, 7, [some (eR a0), some (eI (a1))], [eI (0), eR a0]), f :: F, μ)
      refine b_ieq (t1 := 14) (t2 := 10) rfl rfl rfl rfl (fun g3 => ?_) (fun g3 => absurd g3 (by decide))
      refine w_t (np := 15) (l2 := [some (eR a0), some (eI (a1))]) (s2 := [eI (1), eR a0]) rfl rfl rfl ?_
      refine w_cw (np := 18) (as := [eI (1)]) (l2 := [some (eR a0), some (eI (1))]) (rest := []) rfl rfl rfl (Nat.ble_eq.mp rfl) rfl rfl rfl (hI.kd gA0 (by decide) (n := 69) rfl) rfl ?_
      refine w_t (np := 1) (l2 := [some (eR a0), some (eI (1))]) (s2 := [eR a0]) rfl (s_an rfl (pos_g hI gA0 (by decide))) rfl ?_
      refine w_t (np := 2) (l2 := [some (eR a0), some (eI (1))]) (s2 := [eI (0), eR a0]) rfl rfl rfl ?_
      refine j_pf (np := 5) (w := 0) rfl rfl hI gA0 (by decide) (n := 69) rfl rfl (hO_i (lo := -2147483648) (hi := 2147483647) rfl (by decide)) ?_
      intro m4 I5 W6
      have F7 : Fr l_256n 0 0 g μ m4 := F0.w W6 gA0 rfl
      have p8 : PB g m4 := PB.fr h_PB (Fr.f W6 gA0) rfl
      have p9 : PK g m4 := PK.fr h_PK (Fr.f W6 gA0) rfl
      have p10 : LG g m4 := LG.fr h_LG (Fr.f W6 gA0) rfl
      have p11 : MT g m4 := MT.fr h_MT (Fr.f W6 gA0) rfl
      have p12 : LB g m4 := LB.fr h_LB (Fr.f W6 gA0) rfl
      have p13 : FS g m4 := FS.fr h_FS (Fr.f W6 gA0) rfl
      have p14 : PO g m4 := PO.fr h_PO (Fr.f W6 gA0) rfl
      have p15 : SP g m4 := SP.fr h_SP (Fr.f W6 gA0) rfl
      refine w_t (np := 6) (l2 := [some (eR a0), some (eI (1))]) (s2 := [eR a0]) rfl (s_an rfl (pos_g I5 gA0 (by decide))) rfl ?_
      refine w_t (np := 7) (l2 := [some (eR a0), some (eI (1))]) (s2 := [eI (1), eR a0]) rfl rfl rfl ?_
      refine j_pf (np := 10) (w := 1) rfl rfl I5 gA0 (by decide) (n := 69) rfl rfl (hO_i (lo := -2147483648) (hi := 2147483647) rfl (by decide)) ?_
      intro m16 I17 W18
      have F19 : Fr l_256n 0 0 g μ m16 := F7.w W18 gA0 rfl
      have p20 : PB g m16 := PB.fr p8 (Fr.f W18 gA0) rfl
      have p21 : PK g m16 := PK.fr p9 (Fr.f W18 gA0) rfl
      have p22 : LG g m16 := LG.fr p10 (Fr.f W18 gA0) rfl
      have p23 : MT g m16 := MT.fr p11 (Fr.f W18 gA0) rfl
      have p24 : LB g m16 := LB.fr p12 (Fr.f W18 gA0) rfl
      have p25 : FS g m16 := FS.fr p13 (Fr.f W18 gA0) rfl
      have p26 : PO g m16 := PO.fr p14 (Fr.f W18 gA0) rfl
      have p27 : SP g m16 := SP.fr p15 (Fr.f W18 gA0) rfl
      refine w_t (np := 11) (l2 := [some (eR a0), some (eI (1))]) (s2 := [eI (1)]) rfl rfl rfl ?_
      refine b_ine (t1 := 18) (t2 := 14) rfl rfl rfl rfl (fun g28 => ?_) (fun g28 => absurd g28 (by decide))
      refine w_t (np := 19) (l2 := [some (eR a0), some (eI (1))]) (s2 := [eI (0)]) rfl rfl rfl ?_
      refine b_rz rfl rfl (Or.inl rfl) ?_
      show ex_q (dt_fg L ρ) rc (d + 6, (256, 18, [some (eR a0), some (eI (a1))], [eI (0)]), f :: F, m16)
      refine b_ine (t1 := 23) (t2 := 21) rfl rfl rfl rfl (fun g29 => absurd g29 (by decide)) (fun g29 => ?_)
      refine w_t (np := 22) (l2 := [some (eR a0), some (eI (a1))]) (s2 := [eI (-1)]) rfl rfl rfl ?_
      exact b_ri rfl rfl (K m16 (-1) I17 F19 (by decide) (by omega) p20 p21 p22 p23 p24 p25 p26 p27)
    · have b3 : 0 ≤ a1 ∧ a1 ≤ 3 := by omega
      refine w_t (np := 11) (l2 := [some (eI (a1)), some (eI (0)), some (eI (3))]) (s2 := [eI (1)]) rfl rfl rfl ?_
      refine w_go (t1 := 15) rfl rfl ?_
      refine b_rz rfl rfl (Or.inr rfl) ?_
      show ex_q (dt_fg L ρ) rc (d + 6, (256, 7, [some (eR a0), some (eI (a1))], [eI (1), eR a0]), f :: F, μ)
      refine b_ieq (t1 := 14) (t2 := 10) rfl rfl rfl rfl (fun g3 => absurd g3 (by decide)) (fun g3 => ?_)
      refine w_t (np := 11) (l2 := [some (eR a0), some (eI (a1))]) (s2 := [eI (0), eR a0]) rfl rfl rfl ?_
      refine w_go (t1 := 15) rfl rfl ?_
      refine w_cw (np := 18) (as := [eI (0)]) (l2 := [some (eR a0), some (eI (0))]) (rest := []) rfl rfl rfl (Nat.ble_eq.mp rfl) rfl rfl rfl (hI.kd gA0 (by decide) (n := 69) rfl) rfl ?_
      refine w_t (np := 1) (l2 := [some (eR a0), some (eI (0))]) (s2 := [eR a0]) rfl (s_an rfl (pos_g hI gA0 (by decide))) rfl ?_
      refine w_t (np := 2) (l2 := [some (eR a0), some (eI (0))]) (s2 := [eI (0), eR a0]) rfl rfl rfl ?_
      refine j_pf (np := 5) (w := 0) rfl rfl hI gA0 (by decide) (n := 69) rfl rfl (hO_i (lo := -2147483648) (hi := 2147483647) rfl (by decide)) ?_
      intro m4 I5 W6
      have F7 : Fr l_256n 0 0 g μ m4 := F0.w W6 gA0 rfl
      have p8 : PB g m4 := PB.fr h_PB (Fr.f W6 gA0) rfl
      have p9 : PK g m4 := PK.fr h_PK (Fr.f W6 gA0) rfl
      have p10 : LG g m4 := LG.fr h_LG (Fr.f W6 gA0) rfl
      have p11 : MT g m4 := MT.fr h_MT (Fr.f W6 gA0) rfl
      have p12 : LB g m4 := LB.fr h_LB (Fr.f W6 gA0) rfl
      have p13 : FS g m4 := FS.fr h_FS (Fr.f W6 gA0) rfl
      have p14 : PO g m4 := PO.fr h_PO (Fr.f W6 gA0) rfl
      have p15 : SP g m4 := SP.fr h_SP (Fr.f W6 gA0) rfl
      refine w_t (np := 6) (l2 := [some (eR a0), some (eI (0))]) (s2 := [eR a0]) rfl (s_an rfl (pos_g I5 gA0 (by decide))) rfl ?_
      refine w_t (np := 7) (l2 := [some (eR a0), some (eI (0))]) (s2 := [eI (0), eR a0]) rfl rfl rfl ?_
      refine j_pf (np := 10) (w := 0) rfl rfl I5 gA0 (by decide) (n := 69) rfl rfl (hO_i (lo := -2147483648) (hi := 2147483647) rfl (by decide)) ?_
      intro m16 I17 W18
      have F19 : Fr l_256n 0 0 g μ m16 := F7.w W18 gA0 rfl
      have p20 : PB g m16 := PB.fr p8 (Fr.f W18 gA0) rfl
      have p21 : PK g m16 := PK.fr p9 (Fr.f W18 gA0) rfl
      have p22 : LG g m16 := LG.fr p10 (Fr.f W18 gA0) rfl
      have p23 : MT g m16 := MT.fr p11 (Fr.f W18 gA0) rfl
      have p24 : LB g m16 := LB.fr p12 (Fr.f W18 gA0) rfl
      have p25 : FS g m16 := FS.fr p13 (Fr.f W18 gA0) rfl
      have p26 : PO g m16 := PO.fr p14 (Fr.f W18 gA0) rfl
      have p27 : SP g m16 := SP.fr p15 (Fr.f W18 gA0) rfl
      refine w_t (np := 11) (l2 := [some (eR a0), some (eI (0))]) (s2 := [eI (0)]) rfl rfl rfl ?_
      refine b_ine (t1 := 18) (t2 := 14) rfl rfl rfl rfl (fun g28 => absurd g28 (by decide)) (fun g28 => ?_)
      refine w_t (np := 15) (l2 := [some (eR a0), some (eI (0))]) (s2 := [eI (1)]) rfl rfl rfl ?_
      refine w_go (t1 := 19) rfl rfl ?_
      refine b_rz rfl rfl (Or.inr rfl) ?_
      show ex_q (dt_fg L ρ) rc (d + 6, (256, 18, [some (eR a0), some (eI (a1))], [eI (1)]), f :: F, m16)
      refine b_ine (t1 := 23) (t2 := 21) rfl rfl rfl rfl (fun g29 => ?_) (fun g29 => absurd g29 (by decide))
      refine w_t (np := 24) (l2 := [some (eR a0), some (eI (a1))]) (s2 := [eR a0]) rfl (s_an rfl (pos_g I17 gA0 (by decide))) rfl ?_
      refine w_t (np := 25) (l2 := [some (eR a0), some (eI (a1))]) (s2 := [eI (a1), eR a0]) rfl rfl rfl ?_
      refine w_t (np := 26) (l2 := [some (eR a0), some (eI (a1))]) (s2 := [eI (0), eI (a1), eR a0]) rfl rfl rfl ?_
      refine w_cw (np := 29) (as := [eI (a1), eI (0)]) (l2 := [some (eR a0), some (eI (a1)), some (eI (0)), none, none]) (rest := []) rfl rfl rfl (Nat.ble_eq.mp rfl) rfl rfl rfl (I17.kd gA0 (by decide) (n := 69) rfl) rfl ?_
      obtain ⟨v30, e31, b32⟩ := I17.pk (k := 8) gA0 (by decide) (n := 69) rfl rfl (lo := 0) (hi := 890) rfl
      refine s_239n (a1 := a1) I17 gA0 (by omega) e31 p20 ?_
      intro m33 v36 I34 F35 e37 h38 p39 p40 p41 p42 p43 p44 p45 p46
      have F47 : Fr l_256n 0 0 g μ m33 := F19.t F35 rfl
      have b48 : 0 ≤ v36 ∧ v36 ≤ 890 := by
        rw [← e37]
        exact I34.int gA0 (by decide) (n := 69) rfl (by decide) rfl
      show ex_q (dt_fg L ρ) rc (d + 6, (256, 29, [some (eR a0), some (eI (a1))], []), f :: F, m33)
      refine w_t (np := 30) (l2 := [some (eR a0), some (eI (a1))]) (s2 := [eR a0]) rfl (s_an rfl (pos_g I34 gA0 (by decide))) rfl ?_
      refine w_gf (np := 33) (v := eI (v36)) rfl rfl (I34.kd gA0 (by decide) (n := 69) rfl) (by rw [e37]; rfl) ?_
      exact b_ri rfl rfl (K m33 (v36) I34 F47 (by omega) (by omega) p39 p40 p41 p42 p43 p44 p45 p46)
