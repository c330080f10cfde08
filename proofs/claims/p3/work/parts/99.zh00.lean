/-! methods, walked -/
def l_284h : List Nat := [13354, 19456, 19712]
theorem s_284h {L : Nat} {ρ : Nat → Int} {rc : eQ} {d : Nat} {f : eFr} {F : List eFr} {μ : eM} {g : Nat → Nat} {a0 : Nat} {a1 : Int} {a2 : Int} {qd : Int} {ha : Int} (hI : SI g μ) (gA0 : g a0 = 52) (bA1 : -1 ≤ a1 ∧ a1 ≤ 889) (bA2 : -2147483648 ≤ a2 ∧ a2 ≤ 2147483647) (h_qd : μ.1 a0 41 = qd) (h_ha : μ.1 a0 8 = ha) (h_QF : QF g μ) (h_QH : QH g μ) (hp0 : 0 ≤ a2) (hp1 : a2 ≤ qd) (hp2 : a1 < ha) (K : ∀ (μ2 : eM) (qd2 : Int) (ha2 : Int), SI g μ2 → Fr l_284h 0 0 g μ μ2 → μ2.1 a0 41 = qd2 → μ2.1 a0 8 = ha2 → (qd ≤ qd2) → (ha2 = ha) → QF g μ2 → QH g μ2 → (FK g μ μ2) → ex_q (dt_fg L ρ) rc (d + 1, (f.1, f.2.1, f.2.2.1, f.2.2.2), F, μ2)) : ex_q (dt_fg L ρ) rc (d, (284, 0, [some (eR a0), some (eI (a1)), some (eI (a2))], []), f :: F, μ) := by
  have F0 : Fr l_284h 0 0 g μ μ := Fr.r
  have b_qd : 0 ≤ qd ∧ qd ≤ 890 := by
    rw [← h_qd]
    exact hI.int gA0 (by decide) (n := 69) rfl (by decide) rfl
  have b_ha : 0 ≤ ha ∧ ha ≤ 890 := by
    rw [← h_ha]
    exact hI.int gA0 (by decide) (n := 69) rfl (by decide) rfl
  refine w_t (np := 1) (l2 := [some (eR a0), some (eI (a1)), some (eI (a2))]) (s2 := [eI (a1)]) rfl rfl rfl ?_
  refine b_ilt (t1 := 13) (t2 := 4) rfl rfl rfl (ev_w_in (by omega) (by omega)) (fun g1 => ?_) (fun g1 => ?_)
  · have b2 : -1 ≤ a1 ∧ a1 ≤ -1 := by omega
    exact v_rv rfl rfl (K μ (qd) (ha) hI F0 h_qd h_ha (by omega) (by omega) h_QF h_QH FK.r)
  · have b2 : 0 ≤ a1 ∧ a1 ≤ 889 := by omega
    refine w_t (np := 5) (l2 := [some (eR a0), some (eI (a1)), some (eI (a2))]) (s2 := [eR a0]) rfl (s_an rfl (pos_g hI gA0 (by decide))) rfl ?_
    refine j_gr (np := 8) rfl rfl hI gA0 (by decide) (n := 69) rfl rfl rfl ?_
    intro v2 e3 b4 z5
    have b4 : g v2 = 76 := Nat.eq_of_beq_eq_true b4
    refine w_t (np := 9) (l2 := [some (eR a0), some (eI (a1)), some (eI (a2))]) (s2 := [eI (a1), eR v2]) rfl rfl rfl ?_
    refine j_al (np := 10) rfl rfl hI b4 (by decide) (n := 890) rfl rfl (lo := -1) (hi := 890) (fun _ => rfl) (by omega) (by omega) ?_
    intro v6 e7 b8
    refine b_ilt (t1 := 14) (t2 := 13) rfl rfl rfl (ev_w_in (by omega) (by omega)) (fun g9 => ?_) (fun g9 => ?_)
    · have b10 : -1 ≤ v6 ∧ v6 ≤ -1 := by omega
      obtain ⟨v10, e11, b12, z13⟩ := hI.ref (k := 40) gA0 (by decide) (n := 69) rfl (by decide) rfl
      have b12 : g v10 = 77 := Nat.eq_of_beq_eq_true b12
      have hfx : μ.1 v2 (a1).toNat < 0 := by rw [e7]; omega
      have hqx := QF.lt h_QF gA0 b4 b12 h_qd (by omega) hfx
      refine w_t (np := 15) (l2 := [some (eR a0), some (eI (a1)), some (eI (a2))]) (s2 := [eR a0]) rfl (s_an rfl (pos_g hI gA0 (by decide))) rfl ?_
      refine w_gf (np := 18) (v := eR v2) rfl rfl (hI.kd gA0 (by decide) (n := 69) rfl) (by rw [e3]; rfl) ?_
      refine w_t (np := 19) (l2 := [some (eR a0), some (eI (a1)), some (eI (a2))]) (s2 := [eI (a1), eR v2]) rfl rfl rfl ?_
      refine w_t (np := 20) (l2 := [some (eR a0), some (eI (a1)), some (eI (a2))]) (s2 := [eI (a2), eI (a1), eR v2]) rfl rfl rfl ?_
      refine j_as (np := 21) rfl rfl hI b4 (by decide) (n := 890) rfl rfl (lo := -1) (hi := 890) (fun _ => rfl) (by omega) (by omega) (by omega) ?_
      intro m14 I15 W16
      have F17 : Fr l_284h 0 0 g μ m14 := F0.v W16 b4 rfl rfl
      have p18 : QH g m14 := QH.fr h_QH (Fr.o W16 b4 rfl) rfl
      refine w_t (np := 22) (l2 := [some (eR a0), some (eI (a1)), some (eI (a2))]) (s2 := [eR a0]) rfl (s_an rfl (pos_g I15 gA0 (by decide))) rfl ?_
      refine w_gf (np := 25) (v := eR v10) rfl rfl (I15.kd gA0 (by decide) (n := 69) rfl) (by rw [(W16.addr e11 b4 gA0 (by decide))]; rfl) ?_
      refine w_t (np := 26) (l2 := [some (eR a0), some (eI (a1)), some (eI (a2))]) (s2 := [eR a0, eR v10]) rfl (s_an rfl (pos_g I15 gA0 (by decide))) rfl ?_
      refine w_gf (np := 29) (v := eI (qd)) rfl rfl (I15.kd gA0 (by decide) (n := 69) rfl) (by rw [(W16.addr h_qd b4 gA0 (by decide))]; rfl) ?_
      refine w_t (np := 30) (l2 := [some (eR a0), some (eI (a1)), some (eI (a2))]) (s2 := [eI (a1), eI (qd), eR v10]) rfl rfl rfl ?_
      refine j_as (np := 31) rfl rfl I15 b12 (by decide) (n := 890) rfl rfl (lo := 0) (hi := 889) (fun _ => rfl) (by omega) (by omega) (by omega) ?_
      intro m19 I20 W21
      have F22 : Fr l_284h 0 0 g μ m19 := F17.v W21 b12 rfl rfl
      refine w_t (np := 32) (l2 := [some (eR a0), some (eI (a1)), some (eI (a2))]) (s2 := [eR a0]) rfl (s_an rfl (pos_g I20 gA0 (by decide))) rfl ?_
      refine w_t (np := 33) (l2 := [some (eR a0), some (eI (a1)), some (eI (a2))]) (s2 := [eR a0, eR a0]) rfl rfl rfl ?_
      refine w_gf (np := 36) (v := eI (qd)) rfl rfl (I20.kd gA0 (by decide) (n := 69) rfl) (by rw [(W21.addr (W16.addr h_qd b4 gA0 (by decide)) b12 gA0 (by decide))]; rfl) ?_
      refine w_t (np := 37) (l2 := [some (eR a0), some (eI (a1)), some (eI (a2))]) (s2 := [eI (1), eI (qd), eR a0]) rfl rfl rfl ?_
      obtain ⟨v23, e24⟩ : ∃ zz : Int, zz = (qd) + (1) := ⟨_, rfl⟩
      have b25 : 1 ≤ v23 ∧ v23 ≤ 891 := by omega
      refine w_t (np := 38) (l2 := [some (eR a0), some (eI (a1)), some (eI (a2))]) (s2 := [eI (v23), eR a0]) rfl (b_iadd (by rw [← e24]; exact ev_w_in (by omega) (by omega))) rfl ?_
      refine j_pf (np := 41) (w := v23) rfl rfl I20 gA0 (by decide) (n := 69) rfl rfl (hO_i (lo := 0) (hi := 890) rfl (by omega)) ?_
      intro m26 I27 W28
      have F29 : Fr l_284h 0 0 g μ m26 := F22.w W28 gA0 rfl
      exact v_rv rfl rfl (K m26 (v23) (ha) I27 F29 W28.at (W28.slot (W21.addr (W16.addr h_ha b4 gA0 (by decide)) b12 gA0 (by decide)) (by decide)) (by omega) (by omega) (QF.st hI gA0 b4 b12 h_QF h_qd (by omega) (by omega) hfx W16 W21 W28 (by omega)).1 (QH.st hI gA0 b4 b12 h_QH h_qd hqx.1 h_ha (by omega) W16 W21 W28 (by omega)) (QF.st hI gA0 b4 b12 h_QF h_qd (by omega) (by omega) hfx W16 W21 W28 (by omega)).2)
    · have b10 : 0 ≤ v6 ∧ v6 ≤ 890 := by omega
      exact v_rv rfl rfl (K μ (qd) (ha) hI F0 h_qd h_ha (by omega) (by omega) h_QF h_QH FK.r)
def l_289 : List Nat := [13313, 13314, 13354, 19456, 19712]
set_option maxHeartbeats 8000000 in
theorem s_289 {L : Nat} {ρ : Nat → Int} {rc : eQ} {d : Nat} {f : eFr} {F : List eFr} {μ : eM} {g : Nat → Nat} {a0 : Nat} {a1 : Int} {a2 : Int} {a3 : Int} (hI : SI g μ) (gA0 : g a0 = 52) (bA1 : -2147483648 ≤ a1 ∧ a1 ≤ 2147483647) (bA2 : -2147483648 ≤ a2 ∧ a2 ≤ 2147483647) (bA3 : -2147483648 ≤ a3 ∧ a3 ≤ 2147483647) (h_LG : LG g μ) (h_MT : MT g μ) (h_LB : LB g μ) (K : ∀ (μ2 : eM) (v : Int), SI g μ2 → Fr l_289 0 0 g μ μ2 → (-2147483648 ≤ v ∧ v ≤ 2147483647) → ex_q (dt_fg L ρ) rc (d + 5, (f.1, f.2.1, f.2.2.1, eI v :: f.2.2.2), F, μ2)) : ex_q (dt_fg L ρ) rc (d + 4, (289, 0, [some (eR a0), some (eI (a1)), some (eI (a2)), some (eI (a3)), none, none, none, none, none], []), f :: F, μ) := by
  have F0 : Fr l_289 0 0 g μ μ := Fr.r
  refine w_t (np := 1) (l2 := [some (eR a0), some (eI (a1)), some (eI (a2)), some (eI (a3)), none, none, none, none, none]) (s2 := [eR a0]) rfl (s_an rfl (pos_g hI gA0 (by decide))) rfl ?_
  refine w_t (np := 2) (l2 := [some (eR a0), some (eI (a1)), some (eI (a2)), some (eI (a3)), none, none, none, none, none]) (s2 := [eI (a2), eR a0]) rfl rfl rfl ?_
  refine w_t (np := 3) (l2 := [some (eR a0), some (eI (a1)), some (eI (a2)), some (eI (a3)), none, none, none, none, none]) (s2 := [eI (0), eI (a2), eR a0]) rfl rfl rfl ?_
  refine w_t (np := 4) (l2 := [some (eR a0), some (eI (a1)), some (eI (a2)), some (eI (a3)), none, none, none, none, none]) (s2 := [eI (1), eI (0), eI (a2), eR a0]) rfl rfl rfl ?_
  refine w_cu (np := 7) (as := [eI (a2), eI (0), eI (1)]) (l2 := [some (eI (a2)), some (eI (0)), some (eI (1))]) (rest := [eR a0]) rfl rfl rfl (Nat.ble_eq.mp rfl) rfl rfl rfl rfl ?_
  refine w_t (np := 1) (l2 := [some (eI (a2)), some (eI (0)), some (eI (1))]) (s2 := [eI (a2)]) rfl rfl rfl ?_
  refine w_t (np := 2) (l2 := [some (eI (a2)), some (eI (0)), some (eI (1))]) (s2 := [eI (0), eI (a2)]) rfl rfl rfl ?_
  refine b_clt (t1 := 14) (t2 := 5) rfl rfl rfl (ev_w_in (by omega) (by omega)) rfl (fun g1 => ?_) (fun g1 => ?_)
  · have b2 : -2147483648 ≤ a2 ∧ a2 ≤ -1 := by omega
    refine w_t (np := 15) (l2 := [some (eI (a2)), some (eI (0)), some (eI (1))]) (s2 := [eI (0)]) rfl rfl rfl ?_
    refine b_rz rfl rfl (Or.inl rfl) ?_
    show ex_q (dt_fg L ρ) rc (d + 4, (289, 7, [some (eR a0), some (eI (a1)), some (eI (a2)), some (eI (a3)), none, none, none, none, none], [eI (0), eR a0]), f :: F, μ)
    refine b_ieq (t1 := 19) (t2 := 10) rfl rfl rfl rfl (fun g2 => ?_) (fun g2 => absurd g2 (by decide))
    refine w_t (np := 20) (l2 := [some (eR a0), some (eI (a1)), some (eI (a2)), some (eI (a3)), none, none, none, none, none]) (s2 := [eI (1), eR a0]) rfl rfl rfl ?_
    refine w_go (t1 := 49) rfl rfl ?_
    refine w_cw (np := 52) (as := [eI (1)]) (l2 := [some (eR a0), some (eI (1))]) (rest := []) rfl rfl rfl (Nat.ble_eq.mp rfl) rfl rfl rfl (hI.kd gA0 (by decide) (n := 69) rfl) rfl ?_
    refine w_t (np := 1) (l2 := [some (eR a0), some (eI (1))]) (s2 := [eR a0]) rfl (s_an rfl (pos_g hI gA0 (by decide))) rfl ?_
    refine w_t (np := 2) (l2 := [some (eR a0), some (eI (1))]) (s2 := [eI (0), eR a0]) rfl rfl rfl ?_
    refine j_pf (np := 5) (w := 0) rfl rfl hI gA0 (by decide) (n := 69) rfl rfl (hO_i (lo := -2147483648) (hi := 2147483647) rfl (by decide)) ?_
    intro m3 I4 W5
    have F6 : Fr l_289 0 0 g μ m3 := F0.w W5 gA0 rfl
    have p7 : LG g m3 := LG.fr h_LG (Fr.f W5 gA0) rfl
    have p8 : MT g m3 := MT.fr h_MT (Fr.f W5 gA0) rfl
    have p9 : LB g m3 := LB.fr h_LB (Fr.f W5 gA0) rfl
    refine w_t (np := 6) (l2 := [some (eR a0), some (eI (1))]) (s2 := [eR a0]) rfl (s_an rfl (pos_g I4 gA0 (by decide))) rfl ?_
    refine w_t (np := 7) (l2 := [some (eR a0), some (eI (1))]) (s2 := [eI (1), eR a0]) rfl rfl rfl ?_
    refine j_pf (np := 10) (w := 1) rfl rfl I4 gA0 (by decide) (n := 69) rfl rfl (hO_i (lo := -2147483648) (hi := 2147483647) rfl (by decide)) ?_
    intro m10 I11 W12
    have F13 : Fr l_289 0 0 g μ m10 := F6.w W12 gA0 rfl
    have p14 : LG g m10 := LG.fr p7 (Fr.f W12 gA0) rfl
    have p15 : MT g m10 := MT.fr p8 (Fr.f W12 gA0) rfl
    have p16 : LB g m10 := LB.fr p9 (Fr.f W12 gA0) rfl
    refine w_t (np := 11) (l2 := [some (eR a0), some (eI (1))]) (s2 := [eI (1)]) rfl rfl rfl ?_
    refine b_ine (t1 := 18) (t2 := 14) rfl rfl rfl rfl (fun g17 => ?_) (fun g17 => absurd g17 (by decide))
    refine w_t (np := 19) (l2 := [some (eR a0), some (eI (1))]) (s2 := [eI (0)]) rfl rfl rfl ?_
    refine b_rz rfl rfl (Or.inl rfl) ?_
    show ex_q (dt_fg L ρ) rc (d + 4, (289, 52, [some (eR a0), some (eI (a1)), some (eI (a2)), some (eI (a3)), none, none, none, none, none], [eI (0)]), f :: F, m10)
    refine b_ine (t1 := 57) (t2 := 55) rfl rfl rfl rfl (fun g18 => absurd g18 (by decide)) (fun g18 => ?_)
    refine w_t (np := 56) (l2 := [some (eR a0), some (eI (a1)), some (eI (a2)), some (eI (a3)), none, none, none, none, none]) (s2 := [eI (-1)]) rfl rfl rfl ?_
    exact b_ri rfl rfl (K m10 (-1) I11 F13 (by decide))
  · have b2 : 0 ≤ a2 ∧ a2 ≤ 2147483647 := by omega
    refine w_t (np := 6) (l2 := [some (eI (a2)), some (eI (0)), some (eI (1))]) (s2 := [eI (a2)]) rfl rfl rfl ?_
    refine w_t (np := 7) (l2 := [some (eI (a2)), some (eI (0)), some (eI (1))]) (s2 := [eI (1), eI (a2)]) rfl rfl rfl ?_
    refine b_cgt (t1 := 14) (t2 := 10) rfl rfl rfl (ev_w_in (by omega) (by omega)) rfl (fun g2 => ?_) (fun g2 => ?_)
    · have b3 : 2 ≤ a2 ∧ a2 ≤ 2147483647 := by omega
      refine w_t (np := 15) (l2 := [some (eI (a2)), some (eI (0)), some (eI (1))]) (s2 := [eI (0)]) rfl rfl rfl ?_
      refine b_rz rfl rfl (Or.inl rfl) ?_
      show ex_q (dt_fg L ρ) rc (d + 4, (289, 7, [some (eR a0), some (eI (a1)), some (eI (a2)), some (eI (a3)), none, none, none, none, none], [eI (0), eR a0]), f :: F, μ)
      refine b_ieq (t1 := 19) (t2 := 10) rfl rfl rfl rfl (fun g3 => ?_) (fun g3 => absurd g3 (by decide))
      refine w_t (np := 20) (l2 := [some (eR a0), some (eI (a1)), some (eI (a2)), some (eI (a3)), none, none, none, none, none]) (s2 := [eI (1), eR a0]) rfl rfl rfl ?_
      refine w_go (t1 := 49) rfl rfl ?_
      refine w_cw (np := 52) (as := [eI (1)]) (l2 := [some (eR a0), some (eI (1))]) (rest := []) rfl rfl rfl (Nat.ble_eq.mp rfl) rfl rfl rfl (hI.kd gA0 (by decide) (n := 69) rfl) rfl ?_
      refine w_t (np := 1) (l2 := [some (eR a0), some (eI (1))]) (s2 := [eR a0]) rfl (s_an rfl (pos_g hI gA0 (by decide))) rfl ?_
      refine w_t (np := 2) (l2 := [some (eR a0), some (eI (1))]) (s2 := [eI (0), eR a0]) rfl rfl rfl ?_
      refine j_pf (np := 5) (w := 0) rfl rfl hI gA0 (by decide) (n := 69) rfl rfl (hO_i (lo := -2147483648) (hi := 2147483647) rfl (by decide)) ?_
      intro m4 I5 W6
      have F7 : Fr l_289 0 0 g μ m4 := F0.w W6 gA0 rfl
      have p8 : LG g m4 := LG.fr h_LG (Fr.f W6 gA0) rfl
      have p9 : MT g m4 := MT.fr h_MT (Fr.f W6 gA0) rfl
      have p10 : LB g m4 := LB.fr h_LB (Fr.f W6 gA0) rfl
      refine w_t (np := 6) (l2 := [some (eR a0), some (eI (1))]) (s2 := [eR a0]) rfl (s_an rfl (pos_g I5 gA0 (by decide))) rfl ?_
      refine w_t (np := 7) (l2 := [some (eR a0), some (eI (1))]) (s2 := [eI (1), eR a0]) rfl rfl rfl ?_
      refine j_pf (np := 10) (w := 1) rfl rfl I5 gA0 (by decide) (n := 69) rfl rfl (hO_i (lo := -2147483648) (hi := 2147483647) rfl (by decide)) ?_
      intro m11 I12 W13
      have F14 : Fr l_289 0 0 g μ m11 := F7.w W13 gA0 rfl
      have p15 : LG g m11 := LG.fr p8 (Fr.f W13 gA0) rfl
      have p16 : MT g m11 := MT.fr p9 (Fr.f W13 gA0) rfl
      have p17 : LB g m11 := LB.fr p10 (Fr.f W13 gA0) rfl
      refine w_t (np := 11) (l2 := [some (eR a0), some (eI (1))]) (s2 := [eI (1)]) rfl rfl rfl ?_
      refine b_ine (t1 := 18) (t2 := 14) rfl rfl rfl rfl (fun g18 => ?_) (fun g18 => absurd g18 (by decide))
      refine w_t (np := 19) (l2 := [some (eR a0), some (eI (1))]) (s2 := [eI (0)]) rfl rfl rfl ?_
      refine b_rz rfl rfl (Or.inl rfl) ?_
      show ex_q (dt_fg L ρ) rc (d + 4, (289, 52, [some (eR a0), some (eI (a1)), some (eI (a2)), some (eI (a3)), none, none, none, none, none], [eI (0)]), f :: F, m11)
      refine b_ine (t1 := 57) (t2 := 55) rfl rfl rfl rfl (fun g19 => absurd g19 (by decide)) (fun g19 => ?_)
      refine w_t (np := 56) (l2 := [some (eR a0), some (eI (a1)), some (eI (a2)), some (eI (a3)), none, none, none, none, none]) (s2 := [eI (-1)]) rfl rfl rfl ?_
      exact b_ri rfl rfl (K m11 (-1) I12 F14 (by decide))
    · have b3 : 0 ≤ a2 ∧ a2 ≤ 1 := by omega
      refine w_t (np := 11) (l2 := [some (eI (a2)), some (eI (0)), some (eI (1))]) (s2 := [eI (1)]) rfl rfl rfl ?_
      refine w_go (t1 := 15) rfl rfl ?_
      refine b_rz rfl rfl (Or.inr rfl) ?_
      show ex_q (dt_fg L ρ) rc (d + 4, (289, 7, [some (eR a0), some (eI (a1)), some (eI (a2)), some (eI (a3)), none, none, none, none, none], [eI (1), eR a0]), f :: F, μ)
      refine b_ieq (t1 := 19) (t2 := 10) rfl rfl rfl rfl (fun g3 => absurd g3 (by decide)) (fun g3 => ?_)
      refine w_t (np := 11) (l2 := [some (eR a0), some (eI (a1)), some (eI (a2)), some (eI (a3)), none, none, none, none, none]) (s2 := [eI (a3), eR a0]) rfl rfl rfl ?_
      refine w_t (np := 12) (l2 := [some (eR a0), some (eI (a1)), some (eI (a2)), some (eI (a3)), none, none, none, none, none]) (s2 := [eI (0), eI (a3), eR a0]) rfl rfl rfl ?_
      refine w_t (np := 13) (l2 := [some (eR a0), some (eI (a1)), some (eI (a2)), some (eI (a3)), none, none, none, none, none]) (s2 := [eI (1), eI (0), eI (a3), eR a0]) rfl rfl rfl ?_
      refine w_cu (np := 16) (as := [eI (a3), eI (0), eI (1)]) (l2 := [some (eI (a3)), some (eI (0)), some (eI (1))]) (rest := [eR a0]) rfl rfl rfl (Nat.ble_eq.mp rfl) rfl rfl rfl rfl ?_
      refine w_t (np := 1) (l2 := [some (eI (a3)), some (eI (0)), some (eI (1))]) (s2 := [eI (a3)]) rfl rfl rfl ?_
      refine w_t (np := 2) (l2 := [some (eI (a3)), some (eI (0)), some (eI (1))]) (s2 := [eI (0), eI (a3)]) rfl rfl rfl ?_
      refine b_clt (t1 := 14) (t2 := 5) rfl rfl rfl (ev_w_in (by omega) (by omega)) rfl (fun g4 => ?_) (fun g4 => ?_)
      · have b5 : -2147483648 ≤ a3 ∧ a3 ≤ -1 := by omega
        refine w_t (np := 15) (l2 := [some (eI (a3)), some (eI (0)), some (eI (1))]) (s2 := [eI (0)]) rfl rfl rfl ?_
        refine b_rz rfl rfl (Or.inl rfl) ?_
        show ex_q (dt_fg L ρ) rc (d + 4, (289, 16, [some (eR a0), some (eI (a1)), some (eI (a2)), some (eI (a3)), none, none, none, none, none], [eI (0), eR a0]), f :: F, μ)
        refine b_ine (t1 := 23) (t2 := 19) rfl rfl rfl rfl (fun g5 => absurd g5 (by decide)) (fun g5 => ?_)
        refine w_t (np := 20) (l2 := [some (eR a0), some (eI (a1)), some (eI (a2)), some (eI (a3)), none, none, none, none, none]) (s2 := [eI (1), eR a0]) rfl rfl rfl ?_
        refine w_go (t1 := 49) rfl rfl ?_
        refine w_cw (np := 52) (as := [eI (1)]) (l2 := [some (eR a0), some (eI (1))]) (rest := []) rfl rfl rfl (Nat.ble_eq.mp rfl) rfl rfl rfl (hI.kd gA0 (by decide) (n := 69) rfl) rfl ?_
        refine w_t (np := 1) (l2 := [some (eR a0), some (eI (1))]) (s2 := [eR a0]) rfl (s_an rfl (pos_g hI gA0 (by decide))) rfl ?_
        refine w_t (np := 2) (l2 := [some (eR a0), some (eI (1))]) (s2 := [eI (0), eR a0]) rfl rfl rfl ?_
        refine j_pf (np := 5) (w := 0) rfl rfl hI gA0 (by decide) (n := 69) rfl rfl (hO_i (lo := -2147483648) (hi := 2147483647) rfl (by decide)) ?_
        intro m6 I7 W8
        have F9 : Fr l_289 0 0 g μ m6 := F0.w W8 gA0 rfl
        have p10 : LG g m6 := LG.fr h_LG (Fr.f W8 gA0) rfl
        have p11 : MT g m6 := MT.fr h_MT (Fr.f W8 gA0) rfl
        have p12 : LB g m6 := LB.fr h_LB (Fr.f W8 gA0) rfl
        refine w_t (np := 6) (l2 := [some (eR a0), some (eI (1))]) (s2 := [eR a0]) rfl (s_an rfl (pos_g I7 gA0 (by decide))) rfl ?_
        refine w_t (np := 7) (l2 := [some (eR a0), some (eI (1))]) (s2 := [eI (1), eR a0]) rfl rfl rfl ?_
        refine j_pf (np := 10) (w := 1) rfl rfl I7 gA0 (by decide) (n := 69) rfl rfl (hO_i (lo := -2147483648) (hi := 2147483647) rfl (by decide)) ?_
        intro m13 I14 W15
        have F16 : Fr l_289 0 0 g μ m13 := F9.w W15 gA0 rfl
        have p17 : LG g m13 := LG.fr p10 (Fr.f W15 gA0) rfl
        have p18 : MT g m13 := MT.fr p11 (Fr.f W15 gA0) rfl
        have p19 : LB g m13 := LB.fr p12 (Fr.f W15 gA0) rfl
        refine w_t (np := 11) (l2 := [some (eR a0), some (eI (1))]) (s2 := [eI (1)]) rfl rfl rfl ?_
        refine b_ine (t1 := 18) (t2 := 14) rfl rfl rfl rfl (fun g20 => ?_) (fun g20 => absurd g20 (by decide))
        refine w_t (np := 19) (l2 := [some (eR a0), some (eI (1))]) (s2 := [eI (0)]) rfl rfl rfl ?_
        refine b_rz rfl rfl (Or.inl rfl) ?_
        show ex_q (dt_fg L ρ) rc (d + 4, (289, 52, [some (eR a0), some (eI (a1)), some (eI (a2)), some (eI (a3)), none, none, none, none, none], [eI (0)]), f :: F, m13)
        refine b_ine (t1 := 57) (t2 := 55) rfl rfl rfl rfl (fun g21 => absurd g21 (by decide)) (fun g21 => ?_)
        refine w_t (np := 56) (l2 := [some (eR a0), some (eI (a1)), some (eI (a2)), some (eI (a3)), none, none, none, none, none]) (s2 := [eI (-1)]) rfl rfl rfl ?_
        exact b_ri rfl rfl (K m13 (-1) I14 F16 (by decide))
      · have b5 : 0 ≤ a3 ∧ a3 ≤ 2147483647 := by omega
        refine w_t (np := 6) (l2 := [some (eI (a3)), some (eI (0)), some (eI (1))]) (s2 := [eI (a3)]) rfl rfl rfl ?_
        refine w_t (np := 7) (l2 := [some (eI (a3)), some (eI (0)), some (eI (1))]) (s2 := [eI (1), eI (a3)]) rfl rfl rfl ?_
        refine b_cgt (t1 := 14) (t2 := 10) rfl rfl rfl (ev_w_in (by omega) (by omega)) rfl (fun g5 => ?_) (fun g5 => ?_)
        · have b6 : 2 ≤ a3 ∧ a3 ≤ 2147483647 := by omega
          refine w_t (np := 15) (l2 := [some (eI (a3)), some (eI (0)), some (eI (1))]) (s2 := [eI (0)]) rfl rfl rfl ?_
          refine b_rz rfl rfl (Or.inl rfl) ?_
          show ex_q (dt_fg L ρ) rc (d + 4, (289, 16, [some (eR a0), some (eI (a1)), some (eI (a2)), some (eI (a3)), none, none, none, none, none], [eI (0), eR a0]), f :: F, μ)
          refine b_ine (t1 := 23) (t2 := 19) rfl rfl rfl rfl (fun g6 => absurd g6 (by decide)) (fun g6 => ?_)
          refine w_t (np := 20) (l2 := [some (eR a0), some (eI (a1)), some (eI (a2)), some (eI (a3)), none, none, none, none, none]) (s2 := [eI (1), eR a0]) rfl rfl rfl ?_
          refine w_go (t1 := 49) rfl rfl ?_
          refine w_cw (np := 52) (as := [eI (1)]) (l2 := [some (eR a0), some (eI (1))]) (rest := []) rfl rfl rfl (Nat.ble_eq.mp rfl) rfl rfl rfl (hI.kd gA0 (by decide) (n := 69) rfl) rfl ?_
          refine w_t (np := 1) (l2 := [some (eR a0), some (eI (1))]) (s2 := [eR a0]) rfl (s_an rfl (pos_g hI gA0 (by decide))) rfl ?_
          refine w_t (np := 2) (l2 := [some (eR a0), some (eI (1))]) (s2 := [eI (0), eR a0]) rfl rfl rfl ?_
          refine j_pf (np := 5) (w := 0) rfl rfl hI gA0 (by decide) (n := 69) rfl rfl (hO_i (lo := -2147483648) (hi := 2147483647) rfl (by decide)) ?_
          intro m7 I8 W9
          have F10 : Fr l_289 0 0 g μ m7 := F0.w W9 gA0 rfl
          have p11 : LG g m7 := LG.fr h_LG (Fr.f W9 gA0) rfl
          have p12 : MT g m7 := MT.fr h_MT (Fr.f W9 gA0) rfl
          have p13 : LB g m7 := LB.fr h_LB (Fr.f W9 gA0) rfl
          refine w_t (np := 6) (l2 := [some (eR a0), some (eI (1))]) (s2 := [eR a0]) rfl (s_an rfl (pos_g I8 gA0 (by decide))) rfl ?_
          refine w_t (np := 7) (l2 := [some (eR a0), some (eI (1))]) (s2 := [eI (1), eR a0]) rfl rfl rfl ?_
          refine j_pf (np := 10) (w := 1) rfl rfl I8 gA0 (by decide) (n := 69) rfl rfl (hO_i (lo := -2147483648) (hi := 2147483647) rfl (by decide)) ?_
          intro m14 I15 W16
          have F17 : Fr l_289 0 0 g μ m14 := F10.w W16 gA0 rfl
          have p18 : LG g m14 := LG.fr p11 (Fr.f W16 gA0) rfl
          have p19 : MT g m14 := MT.fr p12 (Fr.f W16 gA0) rfl
          have p20 : LB g m14 := LB.fr p13 (Fr.f W16 gA0) rfl
          refine w_t (np := 11) (l2 := [some (eR a0), some (eI (1))]) (s2 := [eI (1)]) rfl rfl rfl ?_
          refine b_ine (t1 := 18) (t2 := 14) rfl rfl rfl rfl (fun g21 => ?_) (fun g21 => absurd g21 (by decide))
          refine w_t (np := 19) (l2 := [some (eR a0), some (eI (1))]) (s2 := [eI (0)]) rfl rfl rfl ?_
          refine b_rz rfl rfl (Or.inl rfl) ?_
          show ex_q (dt_fg L ρ) rc (d + 4, (289, 52, [some (eR a0), some (eI (a1)), some (eI (a2)), some (eI (a3)), none, none, none, none, none], [eI (0)]), f :: F, m14)
          refine b_ine (t1 := 57) (t2 := 55) rfl rfl rfl rfl (fun g22 => absurd g22 (by decide)) (fun g22 => ?_)
          refine w_t (np := 56) (l2 := [some (eR a0), some (eI (a1)), some (eI (a2)), some (eI (a3)), none, none, none, none, none]) (s2 := [eI (-1)]) rfl rfl rfl ?_
          exact b_ri rfl rfl (K m14 (-1) I15 F17 (by decide))
        · have b6 : 0 ≤ a3 ∧ a3 ≤ 1 := by omega
          refine w_t (np := 11) (l2 := [some (eI (a3)), some (eI (0)), some (eI (1))]) (s2 := [eI (1)]) rfl rfl rfl ?_
          refine w_go (t1 := 15) rfl rfl ?_
          refine b_rz rfl rfl (Or.inr rfl) ?_
          show ex_q (dt_fg L ρ) rc (d + 4, (289, 16, [some (eR a0), some (eI (a1)), some (eI (a2)), some (eI (a3)), none, none, none, none, none], [eI (1), eR a0]), f :: F, μ)
          refine b_ine (t1 := 23) (t2 := 19) rfl rfl rfl rfl (fun g6 => ?_) (fun g6 => absurd g6 (by decide))
          refine w_t (np := 24) (l2 := [some (eR a0), some (eI (a1)), some (eI (a2)), some (eI (a3)), none, none, none, none, none]) (s2 := [eR a0, eR a0]) rfl (s_an rfl (pos_g hI gA0 (by decide))) rfl ?_
          refine w_t (np := 25) (l2 := [some (eR a0), some (eI (a1)), some (eI (a2)), some (eI (a3)), none, none, none, none, none]) (s2 := [eI (a1), eR a0, eR a0]) rfl rfl rfl ?_
          refine w_cw (np := 28) (as := [eI (a1)]) (l2 := [some (eR a0), some (eI (a1))]) (rest := [eR a0]) rfl rfl rfl (Nat.ble_eq.mp rfl) rfl rfl rfl (hI.kd gA0 (by decide) (n := 69) rfl) rfl ?_
          refine w_t (np := 1) (l2 := [some (eR a0), some (eI (a1))]) (s2 := [eI (a1)]) rfl rfl rfl ?_
          refine w_t (np := 2) (l2 := [some (eR a0), some (eI (a1))]) (s2 := [eI (0), eI (a1)]) rfl rfl rfl ?_
          refine w_t (np := 3) (l2 := [some (eR a0), some (eI (a1))]) (s2 := [eR a0, eI (0), eI (a1)]) rfl (s_an rfl (pos_g hI gA0 (by decide))) rfl ?_
          refine j_gi (np := 6) rfl rfl rfl hI gA0 (by decide) (n := 69) rfl rfl (lo := 0) (hi := 890) rfl ?_
          intro v7 e8 b9
          refine w_t (np := 7) (l2 := [some (eR a0), some (eI (a1))]) (s2 := [eI (1), eI (v7), eI (0), eI (a1)]) rfl rfl rfl ?_
          obtain ⟨v10, e11⟩ : ∃ zz : Int, zz = (v7) - (1) := ⟨_, rfl⟩
          have b12 : -1 ≤ v10 ∧ v10 ≤ 889 := by omega
          refine w_t (np := 8) (l2 := [some (eR a0), some (eI (a1))]) (s2 := [eI (v10), eI (0), eI (a1)]) rfl (b_isub (by rw [← e11]; exact ev_w_in (by omega) (by omega))) rfl ?_
          refine w_cu (np := 11) (as := [eI (a1), eI (0), eI (v10)]) (l2 := [some (eI (a1)), some (eI (0)), some (eI (v10))]) (rest := []) rfl rfl rfl (Nat.ble_eq.mp rfl) rfl rfl rfl rfl ?_
          refine w_t (np := 1) (l2 := [some (eI (a1)), some (eI (0)), some (eI (v10))]) (s2 := [eI (a1)]) rfl rfl rfl ?_
          refine w_t (np := 2) (l2 := [some (eI (a1)), some (eI (0)), some (eI (v10))]) (s2 := [eI (0), eI (a1)]) rfl rfl rfl ?_
          refine b_clt (t1 := 14) (t2 := 5) rfl rfl rfl (ev_w_in (by omega) (by omega)) rfl (fun g13 => ?_) (fun g13 => ?_)
          · have b14 : -2147483648 ≤ a1 ∧ a1 ≤ -1 := by omega
            refine w_t (np := 15) (l2 := [some (eI (a1)), some (eI (0)), some (eI (v10))]) (s2 := [eI (0)]) rfl rfl rfl ?_
            refine b_rz rfl rfl (Or.inl rfl) ?_
            show ex_q (dt_fg L ρ) rc (d + 3, (243, 11, [some (eR a0), some (eI (a1))], [eI (0)]), (289, 28, [some (eR a0), some (eI (a1)), some (eI (a2)), some (eI (a3)), none, none, none, none, none], [eR a0]) :: f :: F, μ)
            refine b_rz rfl rfl (Or.inl rfl) ?_
            show ex_q (dt_fg L ρ) rc (d + 4, (289, 28, [some (eR a0), some (eI (a1)), some (eI (a2)), some (eI (a3)), none, none, none, none, none], [eI (0), eR a0]), f :: F, μ)
            refine b_ine (t1 := 35) (t2 := 31) rfl rfl rfl rfl (fun g14 => absurd g14 (by decide)) (fun g14 => ?_)
            refine w_t (np := 32) (l2 := [some (eR a0), some (eI (a1)), some (eI (a2)), some (eI (a3)), none, none, none, none, none]) (s2 := [eI (2), eR a0]) rfl rfl rfl ?_
            refine w_go (t1 := 49) rfl rfl ?_
            refine w_cw (np := 52) (as := [eI (2)]) (l2 := [some (eR a0), some (eI (2))]) (rest := []) rfl rfl rfl (Nat.ble_eq.mp rfl) rfl rfl rfl (hI.kd gA0 (by decide) (n := 69) rfl) rfl ?_
            refine w_t (np := 1) (l2 := [some (eR a0), some (eI (2))]) (s2 := [eR a0]) rfl (s_an rfl (pos_g hI gA0 (by decide))) rfl ?_
            refine w_t (np := 2) (l2 := [some (eR a0), some (eI (2))]) (s2 := [eI (0), eR a0]) rfl rfl rfl ?_
            refine j_pf (np := 5) (w := 0) rfl rfl hI gA0 (by decide) (n := 69) rfl rfl (hO_i (lo := -2147483648) (hi := 2147483647) rfl (by decide)) ?_
            intro m15 I16 W17
            have F18 : Fr l_289 0 0 g μ m15 := F0.w W17 gA0 rfl
            have p19 : LG g m15 := LG.fr h_LG (Fr.f W17 gA0) rfl
            have p20 : MT g m15 := MT.fr h_MT (Fr.f W17 gA0) rfl
            have p21 : LB g m15 := LB.fr h_LB (Fr.f W17 gA0) rfl
            refine w_t (np := 6) (l2 := [some (eR a0), some (eI (2))]) (s2 := [eR a0]) rfl (s_an rfl (pos_g I16 gA0 (by decide))) rfl ?_
            refine w_t (np := 7) (l2 := [some (eR a0), some (eI (2))]) (s2 := [eI (2), eR a0]) rfl rfl rfl ?_
            refine j_pf (np := 10) (w := 2) rfl rfl I16 gA0 (by decide) (n := 69) rfl rfl (hO_i (lo := -2147483648) (hi := 2147483647) rfl (by decide)) ?_
            intro m22 I23 W24
            have F25 : Fr l_289 0 0 g μ m22 := F18.w W24 gA0 rfl
            have p26 : LG g m22 := LG.fr p19 (Fr.f W24 gA0) rfl
            have p27 : MT g m22 := MT.fr p20 (Fr.f W24 gA0) rfl
            have p28 : LB g m22 := LB.fr p21 (Fr.f W24 gA0) rfl
            refine w_t (np := 11) (l2 := [some (eR a0), some (eI (2))]) (s2 := [eI (2)]) rfl rfl rfl ?_
            refine b_ine (t1 := 18) (t2 := 14) rfl rfl rfl rfl (fun g29 => ?_) (fun g29 => absurd g29 (by decide))
            refine w_t (np := 19) (l2 := [some (eR a0), some (eI (2))]) (s2 := [eI (0)]) rfl rfl rfl ?_
            refine b_rz rfl rfl (Or.inl rfl) ?_
            show ex_q (dt_fg L ρ) rc (d + 4, (289, 52, [some (eR a0), some (eI (a1)), some (eI (a2)), some (eI (a3)), none, none, none, none, none], [eI (0)]), f :: F, m22)
            refine b_ine (t1 := 57) (t2 := 55) rfl rfl rfl rfl (fun g30 => absurd g30 (by decide)) (fun g30 => ?_)
            refine w_t (np := 56) (l2 := [some (eR a0), some (eI (a1)), some (eI (a2)), some (eI (a3)), none, none, none, none, none]) (s2 := [eI (-1)]) rfl rfl rfl ?_
            exact b_ri rfl rfl (K m22 (-1) I23 F25 (by decide))
          · have b14 : 0 ≤ a1 ∧ a1 ≤ 2147483647 := by omega
            refine w_t (np := 6) (l2 := [some (eI (a1)), some (eI (0)), some (eI (v10))]) (s2 := [eI (a1)]) rfl rfl rfl ?_
            refine w_t (np := 7) (l2 := [some (eI (a1)), some (eI (0)), some (eI (v10))]) (s2 := [eI (v10), eI (a1)]) rfl rfl rfl ?_
            refine b_cgt (t1 := 14) (t2 := 10) rfl rfl rfl (ev_w_in (by omega) (by omega)) (ev_w_in (by omega) (by omega)) (fun g14 => ?_) (fun g14 => ?_)
            · refine w_t (np := 15) (l2 := [some (eI (a1)), some (eI (0)), some (eI (v10))]) (s2 := [eI (0)]) rfl rfl rfl ?_
              refine b_rz rfl rfl (Or.inl rfl) ?_
              show ex_q (dt_fg L ρ) rc (d + 3, (243, 11, [some (eR a0), some (eI (a1))], [eI (0)]), (289, 28, [some (eR a0), some (eI (a1)), some (eI (a2)), some (eI (a3)), none, none, none, none, none], [eR a0]) :: f :: F, μ)
              refine b_rz rfl rfl (Or.inl rfl) ?_
              show ex_q (dt_fg L ρ) rc (d + 4, (289, 28, [some (eR a0), some (eI (a1)), some (eI (a2)), some (eI (a3)), none, none, none, none, none], [eI (0), eR a0]), f :: F, μ)
              refine b_ine (t1 := 35) (t2 := 31) rfl rfl rfl rfl (fun g15 => absurd g15 (by decide)) (fun g15 => ?_)
              refine w_t (np := 32) (l2 := [some (eR a0), some (eI (a1)), some (eI (a2)), some (eI (a3)), none, none, none, none, none]) (s2 := [eI (2), eR a0]) rfl rfl rfl ?_
              refine w_go (t1 := 49) rfl rfl ?_
              refine w_cw (np := 52) (as := [eI (2)]) (l2 := [some (eR a0), some (eI (2))]) (rest := []) rfl rfl rfl (Nat.ble_eq.mp rfl) rfl rfl rfl (hI.kd gA0 (by decide) (n := 69) rfl) rfl ?_
              refine w_t (np := 1) (l2 := [some (eR a0), some (eI (2))]) (s2 := [eR a0]) rfl (s_an rfl (pos_g hI gA0 (by decide))) rfl ?_
              refine w_t (np := 2) (l2 := [some (eR a0), some (eI (2))]) (s2 := [eI (0), eR a0]) rfl rfl rfl ?_
              refine j_pf (np := 5) (w := 0) rfl rfl hI gA0 (by decide) (n := 69) rfl rfl (hO_i (lo := -2147483648) (hi := 2147483647) rfl (by decide)) ?_
              intro m16 I17 W18
              have F19 : Fr l_289 0 0 g μ m16 := F0.w W18 gA0 rfl
              have p20 : LG g m16 := LG.fr h_LG (Fr.f W18 gA0) rfl
              have p21 : MT g m16 := MT.fr h_MT (Fr.f W18 gA0) rfl
              have p22 : LB g m16 := LB.fr h_LB (Fr.f W18 gA0) rfl
              refine w_t (np := 6) (l2 := [some (eR a0), some (eI (2))]) (s2 := [eR a0]) rfl (s_an rfl (pos_g I17 gA0 (by decide))) rfl ?_
              refine w_t (np := 7) (l2 := [some (eR a0), some (eI (2))]) (s2 := [eI (2), eR a0]) rfl rfl rfl ?_
              refine j_pf (np := 10) (w := 2) rfl rfl I17 gA0 (by decide) (n := 69) rfl rfl (hO_i (lo := -2147483648) (hi := 2147483647) rfl (by decide)) ?_
              intro m23 I24 W25
              have F26 : Fr l_289 0 0 g μ m23 := F19.w W25 gA0 rfl
              have p27 : LG g m23 := LG.fr p20 (Fr.f W25 gA0) rfl
              have p28 : MT g m23 := MT.fr p21 (Fr.f W25 gA0) rfl
              have p29 : LB g m23 := LB.fr p22 (Fr.f W25 gA0) rfl
              refine w_t (np := 11) (l2 := [some (eR a0), some (eI (2))]) (s2 := [eI (2)]) rfl rfl rfl ?_
              refine b_ine (t1 := 18) (t2 := 14) rfl rfl rfl rfl (fun g30 => ?_) (fun g30 => absurd g30 (by decide))
              refine w_t (np := 19) (l2 := [some (eR a0), some (eI (2))]) (s2 := [eI (0)]) rfl rfl rfl ?_
              refine b_rz rfl rfl (Or.inl rfl) ?_
              show ex_q (dt_fg L ρ) rc (d + 4, (289, 52, [some (eR a0), some (eI (a1)), some (eI (a2)), some (eI (a3)), none, none, none, none, none], [eI (0)]), f :: F, m23)
              refine b_ine (t1 := 57) (t2 := 55) rfl rfl rfl rfl (fun g31 => absurd g31 (by decide)) (fun g31 => ?_)
              refine w_t (np := 56) (l2 := [some (eR a0), some (eI (a1)), some (eI (a2)), some (eI (a3)), none, none, none, none, none]) (s2 := [eI (-1)]) rfl rfl rfl ?_
              exact b_ri rfl rfl (K m23 (-1) I24 F26 (by decide))
            · have b15 : 0 ≤ a1 ∧ a1 ≤ 889 := by omega
              have b16 : 0 ≤ v10 ∧ v10 ≤ 889 := by omega
              refine w_t (np := 11) (l2 := [some (eI (a1)), some (eI (0)), some (eI (v10))]) (s2 := [eI (1)]) rfl rfl rfl ?_
              refine w_go (t1 := 15) rfl rfl ?_
              refine b_rz rfl rfl (Or.inr rfl) ?_
              show ex_q (dt_fg L ρ) rc (d + 3, (243, 11, [some (eR a0), some (eI (a1))], [eI (1)]), (289, 28, [some (eR a0), some (eI (a1)), some (eI (a2)), some (eI (a3)), none, none, none, none, none], [eR a0]) :: f :: F, μ)
              refine b_rz rfl rfl (Or.inr rfl) ?_
              show ex_q (dt_fg L ρ) rc (d + 4, (289, 28, [some (eR a0), some (eI (a1)), some (eI (a2)), some (eI (a3)), none, none, none, none, none], [eI (1), eR a0]), f :: F, μ)
              refine b_ine (t1 := 35) (t2 := 31) rfl rfl rfl rfl (fun g15 => ?_) (fun g15 => absurd g15 (by decide))
              refine w_t (np := 36) (l2 := [some (eR a0), some (eI (a1)), some (eI (a2)), some (eI (a3)), none, none, none, none, none]) (s2 := [eR a0, eR a0]) rfl (s_an rfl (pos_g hI gA0 (by decide))) rfl ?_
              refine j_gr (np := 39) rfl rfl hI gA0 (by decide) (n := 69) rfl rfl rfl ?_
              intro v16 e17 b18 z19
              have b18 : g v16 = 67 := Nat.eq_of_beq_eq_true b18
              refine w_t (np := 40) (l2 := [some (eR a0), some (eI (a1)), some (eI (a2)), some (eI (a3)), none, none, none, none, none]) (s2 := [eI (a1), eR v16, eR a0]) rfl rfl rfl ?_
              refine j_al (np := 41) rfl rfl hI b18 (by decide) (n := 890) rfl rfl (lo := -1) (hi := 889) (fun _ => rfl) (by omega) (by omega) ?_
              intro v20 e21 b22
              refine b_ige (t1 := 48) (t2 := 44) rfl rfl rfl (ev_w_in (by omega) (by omega)) (fun g23 => ?_) (fun g23 => ?_)
              · have b24 : 0 ≤ v20 ∧ v20 ≤ 889 := by omega
                refine w_t (np := 49) (l2 := [some (eR a0), some (eI (a1)), some (eI (a2)), some (eI (a3)), none, none, none, none, none]) (s2 := [eI (0), eR a0]) rfl rfl rfl ?_
                refine w_cw (np := 52) (as := [eI (0)]) (l2 := [some (eR a0), some (eI (0))]) (rest := []) rfl rfl rfl (Nat.ble_eq.mp rfl) rfl rfl rfl (hI.kd gA0 (by decide) (n := 69) rfl) rfl ?_
                refine w_t (np := 1) (l2 := [some (eR a0), some (eI (0))]) (s2 := [eR a0]) rfl (s_an rfl (pos_g hI gA0 (by decide))) rfl ?_
                refine w_t (np := 2) (l2 := [some (eR a0), some (eI (0))]) (s2 := [eI (0), eR a0]) rfl rfl rfl ?_
                refine j_pf (np := 5) (w := 0) rfl rfl hI gA0 (by decide) (n := 69) rfl rfl (hO_i (lo := -2147483648) (hi := 2147483647) rfl (by decide)) ?_
                intro m24 I25 W26
                have F27 : Fr l_289 0 0 g μ m24 := F0.w W26 gA0 rfl
                have p28 : LG g m24 := LG.fr h_LG (Fr.f W26 gA0) rfl
                have p29 : MT g m24 := MT.fr h_MT (Fr.f W26 gA0) rfl
                have p30 : LB g m24 := LB.fr h_LB (Fr.f W26 gA0) rfl
                refine w_t (np := 6) (l2 := [some (eR a0), some (eI (0))]) (s2 := [eR a0]) rfl (s_an rfl (pos_g I25 gA0 (by decide))) rfl ?_
                refine w_t (np := 7) (l2 := [some (eR a0), some (eI (0))]) (s2 := [eI (0), eR a0]) rfl rfl rfl ?_
                refine j_pf (np := 10) (w := 0) rfl rfl I25 gA0 (by decide) (n := 69) rfl rfl (hO_i (lo := -2147483648) (hi := 2147483647) rfl (by decide)) ?_
                intro m31 I32 W33
                have F34 : Fr l_289 0 0 g μ m31 := F27.w W33 gA0 rfl
                have p35 : LG g m31 := LG.fr p28 (Fr.f W33 gA0) rfl
                have p36 : MT g m31 := MT.fr p29 (Fr.f W33 gA0) rfl
                have p37 : LB g m31 := LB.fr p30 (Fr.f W33 gA0) rfl
                refine w_t (np := 11) (l2 := [some (eR a0), some (eI (0))]) (s2 := [eI (0)]) rfl rfl rfl ?_
                refine b_ine (t1 := 18) (t2 := 14) rfl rfl rfl rfl (fun g38 => absurd g38 (by decide)) (fun g38 => ?_)
                refine w_t (np := 15) (l2 := [some (eR a0), some (eI (0))]) (s2 := [eI (1)]) rfl rfl rfl ?_
                refine w_go (t1 := 19) rfl rfl ?_
                refine b_rz rfl rfl (Or.inr rfl) ?_
                show ex_q (dt_fg L ρ) rc (d + 4, (289, 52, [some (eR a0), some (eI (a1)), some (eI (a2)), some (eI (a3)), none, none, none, none, none], [eI (1)]), f :: F, m31)
                refine b_ine (t1 := 57) (t2 := 55) rfl rfl rfl rfl (fun g39 => ?_) (fun g39 => absurd g39 (by decide))
                refine w_t (np := 58) (l2 := [some (eR a0), some (eI (a1)), some (eI (a2)), some (eI (a3)), none, none, none, none, none]) (s2 := [eR a0]) rfl (s_an rfl (pos_g I32 gA0 (by decide))) rfl ?_
                refine w_t (np := 59) (l2 := [some (eR a0), some (eI (a1)), some (eI (a2)), some (eI (a3)), none, none, none, none, none]) (s2 := [eR a0, eR a0]) rfl (s_an rfl (pos_g I32 gA0 (by decide))) rfl ?_
                refine w_t (np := 60) (l2 := [some (eR a0), some (eI (a1)), some (eI (a2)), some (eI (a3)), none, none, none, none, none]) (s2 := [eI (a1), eR a0, eR a0]) rfl rfl rfl ?_
                refine w_t (np := 61) (l2 := [some (eR a0), some (eI (a1)), some (eI (a2)), some (eI (a3)), none, none, none, none, none]) (s2 := [eI (0), eI (a1), eR a0, eR a0]) rfl rfl rfl ?_
                refine w_cw (np := 64) (as := [eI (a1), eI (0)]) (l2 := [some (eR a0), some (eI (a1)), some (eI (0))]) (rest := [eR a0]) rfl rfl rfl (Nat.ble_eq.mp rfl) rfl rfl rfl (I32.kd gA0 (by decide) (n := 69) rfl) rfl ?_
                refine w_t (np := 1) (l2 := [some (eR a0), some (eI (a1)), some (eI (0))]) (s2 := [eR a0]) rfl (s_an rfl (pos_g I32 gA0 (by decide))) rfl ?_
                refine j_gr (np := 4) rfl rfl I32 gA0 (by decide) (n := 69) rfl rfl rfl ?_
                intro v40 e41 b42 z43
                have b42 : g v40 = 64 := Nat.eq_of_beq_eq_true b42
                refine w_t (np := 5) (l2 := [some (eR a0), some (eI (a1)), some (eI (0))]) (s2 := [eI (3), eR v40]) rfl rfl rfl ?_
                refine w_t (np := 6) (l2 := [some (eR a0), some (eI (a1)), some (eI (0))]) (s2 := [eI (a1), eI (3), eR v40]) rfl rfl rfl ?_
                obtain ⟨v44, e45⟩ : ∃ zz : Int, zz = (3) * (a1) := ⟨_, rfl⟩
                have b46 : 0 ≤ v44 ∧ v44 ≤ 2667 := by omega
                refine w_t (np := 7) (l2 := [some (eR a0), some (eI (a1)), some (eI (0))]) (s2 := [eI (v44), eR v40]) rfl (b_imul (by rw [← e45]; exact ev_w_in (by omega) (by omega))) rfl ?_
                refine w_t (np := 8) (l2 := [some (eR a0), some (eI (a1)), some (eI (0))]) (s2 := [eI (0), eI (v44), eR v40]) rfl rfl rfl ?_
                refine w_t (np := 9) (l2 := [some (eR a0), some (eI (a1)), some (eI (0))]) (s2 := [eI (v44), eR v40]) rfl (b_iadd (by rw [Int.add_zero]; exact ev_w_in (by omega) (by omega))) rfl ?_
                refine j_al (np := 10) rfl rfl I32 b42 (by decide) (n := 2670) rfl rfl (lo := 0) (hi := 2669) (fun _ => rfl) (by omega) (by omega) ?_
                intro v47 e48 b49
                refine b_ri rfl rfl ?_
                show ex_q (dt_fg L ρ) rc (d + 4, (289, 64, [some (eR a0), some (eI (a1)), some (eI (a2)), some (eI (a3)), none, none, none, none, none], [eI (v47), eR a0]), f :: F, m31)
                refine w_t (np := 65) (l2 := [some (eR a0), some (eI (a1)), some (eI (a2)), some (eI (a3)), none, none, none, none, none]) (s2 := [eR a0, eI (v47), eR a0]) rfl (s_an rfl (pos_g I32 gA0 (by decide))) rfl ?_
                refine w_t (np := 66) (l2 := [some (eR a0), some (eI (a1)), some (eI (a2)), some (eI (a3)), none, none, none, none, none]) (s2 := [eI (a1), eR a0, eI (v47), eR a0]) rfl rfl rfl ?_
                refine w_t (np := 67) (l2 := [some (eR a0), some (eI (a1)), some (eI (a2)), some (eI (a3)), none, none, none, none, none]) (s2 := [eI (1), eI (a1), eR a0, eI (v47), eR a0]) rfl rfl rfl ?_
                refine w_t (np := 68) (l2 := [some (eR a0), some (eI (a1)), some (eI (a2)), some (eI (a3)), none, none, none, none, none]) (s2 := [eI (a2), eI (1), eI (a1), eR a0, eI (v47), eR a0]) rfl rfl rfl ?_
                obtain ⟨v50, e51⟩ : ∃ zz : Int, zz = (1) + (a2) := ⟨_, rfl⟩
                have b52 : 1 ≤ v50 ∧ v50 ≤ 2 := by omega
                refine w_t (np := 69) (l2 := [some (eR a0), some (eI (a1)), some (eI (a2)), some (eI (a3)), none, none, none, none, none]) (s2 := [eI (v50), eI (a1), eR a0, eI (v47), eR a0]) rfl (b_iadd (by rw [← e51]; exact ev_w_in (by omega) (by omega))) rfl ?_
                refine w_cw (np := 72) (as := [eI (a1), eI (v50)]) (l2 := [some (eR a0), some (eI (a1)), some (eI (v50))]) (rest := [eI (v47), eR a0]) rfl rfl rfl (Nat.ble_eq.mp rfl) rfl rfl rfl (I32.kd gA0 (by decide) (n := 69) rfl) rfl ?_
                refine w_t (np := 1) (l2 := [some (eR a0), some (eI (a1)), some (eI (v50))]) (s2 := [eR a0]) rfl (s_an rfl (pos_g I32 gA0 (by decide))) rfl ?_
                refine w_gf (np := 4) (v := eR v40) rfl rfl (I32.kd gA0 (by decide) (n := 69) rfl) (by rw [e41]; rfl) ?_
                refine w_t (np := 5) (l2 := [some (eR a0), some (eI (a1)), some (eI (v50))]) (s2 := [eI (3), eR v40]) rfl rfl rfl ?_
                refine w_t (np := 6) (l2 := [some (eR a0), some (eI (a1)), some (eI (v50))]) (s2 := [eI (a1), eI (3), eR v40]) rfl rfl rfl ?_
                obtain ⟨v53, e54⟩ : ∃ zz : Int, zz = (3) * (a1) := ⟨_, rfl⟩
                have b55 : 0 ≤ v53 ∧ v53 ≤ 2667 := by omega
                refine w_t (np := 7) (l2 := [some (eR a0), some (eI (a1)), some (eI (v50))]) (s2 := [eI (v53), eR v40]) rfl (b_imul (by rw [← e54]; exact ev_w_in (by omega) (by omega))) rfl ?_
                refine w_t (np := 8) (l2 := [some (eR a0), some (eI (a1)), some (eI (v50))]) (s2 := [eI (v50), eI (v53), eR v40]) rfl rfl rfl ?_
                obtain ⟨v56, e57⟩ : ∃ zz : Int, zz = (v53) + (v50) := ⟨_, rfl⟩
                have b58 : 1 ≤ v56 ∧ v56 ≤ 2669 := by omega
                refine w_t (np := 9) (l2 := [some (eR a0), some (eI (a1)), some (eI (v50))]) (s2 := [eI (v56), eR v40]) rfl (b_iadd (by rw [← e57]; exact ev_w_in (by omega) (by omega))) rfl ?_
                refine j_al (np := 10) rfl rfl I32 b42 (by decide) (n := 2670) rfl rfl (lo := 0) (hi := 2669) (fun _ => rfl) (by omega) (by omega) ?_
                intro v59 e60 b61
                refine b_ri rfl rfl ?_
                show ex_q (dt_fg L ρ) rc (d + 4, (289, 72, [some (eR a0), some (eI (a1)), some (eI (a2)), some (eI (a3)), none, none, none, none, none], [eI (v59), eI (v47), eR a0]), f :: F, m31)
                obtain ⟨D62, h63⟩ := LG.d (i := a1) (c := (v56) - 3 * (a1)) (v0 := v44) (v1 := v56) I32 p35 gA0 b42 (W33.slot (W26.slot e8 (by decide)) (by decide)) (by omega) (by omega) e48 (by omega) (by omega) e60
                refine w_cw (np := 75) (as := [eI (v47), eI (v59)]) (l2 := [some (eR a0), some (eI (v47)), some (eI (v59)), none]) (rest := []) rfl rfl rfl (Nat.ble_eq.mp rfl) rfl rfl rfl (I32.kd gA0 (by decide) (n := 69) rfl) rfl ?_
                refine s_249 (a1 := v47) (a2 := v59) I32 gA0 (by omega) (by omega) h63 ?_
                intro v64 b65
                show ex_q (dt_fg L ρ) rc (d + 4, (289, 75, [some (eR a0), some (eI (a1)), some (eI (a2)), some (eI (a3)), none, none, none, none, none], [eI (v64)]), f :: F, m31)
                refine w_t (np := 76) (l2 := [some (eR a0), some (eI (a1)), some (eI (a2)), some (eI (a3)), none, none, none, none, none]) (s2 := [eI (5), eI (v64)]) rfl rfl rfl ?_
                obtain ⟨v66, e67, b68⟩ := h_irem (a := v64) (k := 5) (by decide) (by decide) (show (-2147483648 : Int) ≤ v64 ∧ (v64 : Int) ≤ 2147483647 by omega)
                have b70 : v66 = (v64) % 5 := b68.1 (by omega)
                clear b68
                have b69 : 0 ≤ v66 ∧ v66 ≤ 4 := by omega
                refine w_t (np := 77) (l2 := [some (eR a0), some (eI (a1)), some (eI (a2)), some (eI (a3)), none, none, none, none, none]) (s2 := [eI (v66)]) rfl (e67 _ _) rfl ?_
                refine w_t (np := 79) (l2 := [some (eR a0), some (eI (a1)), some (eI (a2)), some (eI (a3)), some (eI (v66)), none, none, none, none]) (s2 := []) rfl rfl rfl ?_
                refine w_t (np := 80) (l2 := [some (eR a0), some (eI (a1)), some (eI (a2)), some (eI (a3)), some (eI (v66)), none, none, none, none]) (s2 := [eI (0)]) rfl rfl rfl ?_
                refine w_t (np := 82) (l2 := [some (eR a0), some (eI (a1)), some (eI (a2)), some (eI (a3)), some (eI (v66)), some (eI (0)), none, none, none]) (s2 := []) rfl rfl rfl ?_
                have hL82 : ∀ (n71 : Nat) (m75 : eM) (i73 : Int), SI g m75 → Fr l_289 0 0 g μ m75 → (0 ≤ i73 ∧ i73 ≤ 890) → m75.1 a0 8 = v7 → m75.1 a0 25 = ((v16 : Nat) : Int) → m75.1 v16 (a1).toNat = v20 → m75.1 a0 1 = 0 → m75.1 a0 0 = 0 → m75.1 a0 22 = ((v40 : Nat) : Int) → m75.1 v40 (v44).toNat = v47 → m75.1 v40 (v56).toNat = v59 → LG g m75 → MT g m75 → LB g m75 → n71 = (890 - i73).toNat → ex_q (dt_fg L ρ) rc (d + 4, (289, 82, [some (eR a0), some (eI (a1)), some (eI (a2)), some (eI (a3)), some (eI (v66)), some (eI (i73)), none, none, none], []), f :: F, m75) := by
                  intro n71
                  induction n71 using Nat.strongRecOn with
                  | _ n71 ih72 =>
                  intro m75 i73 I76 F77 b74 k78 k79 k80 k81 k82 k83 k84 k85 p86 p87 p88 hn89
                  refine w_t (np := 84) (l2 := [some (eR a0), some (eI (a1)), some (eI (a2)), some (eI (a3)), some (eI (v66)), some (eI (i73)), none, none, none]) (s2 := [eI (i73)]) rfl rfl rfl ?_
                  refine w_t (np := 85) (l2 := [some (eR a0), some (eI (a1)), some (eI (a2)), some (eI (a3)), some (eI (v66)), some (eI (i73)), none, none, none]) (s2 := [eR a0, eI (i73)]) rfl (s_an rfl (pos_g I76 gA0 (by decide))) rfl ?_
                  refine w_gf (np := 88) (v := eI (v7)) rfl rfl (I76.kd gA0 (by decide) (n := 69) rfl) (by rw [k78]; rfl) ?_
                  refine b_cge (t1 := 105) (t2 := 91) rfl rfl rfl (ev_w_in (by omega) (by omega)) (ev_w_in (by omega) (by omega)) (fun g90 => ?_) (fun g90 => ?_)
                  · refine w_t (np := 106) (l2 := [some (eR a0), some (eI (a1)), some (eI (a2)), some (eI (a3)), some (eI (v66)), some (eI (i73)), none, none, none]) (s2 := [eR a0]) rfl (s_an rfl (pos_g I76 gA0 (by decide))) rfl ?_
                    refine w_t (np := 107) (l2 := [some (eR a0), some (eI (a1)), some (eI (a2)), some (eI (a3)), some (eI (v66)), some (eI (i73)), none, none, none]) (s2 := [eI (0), eR a0]) rfl rfl rfl ?_
                    refine j_pf (np := 110) (w := 0) rfl rfl I76 gA0 (by decide) (n := 69) rfl rfl (hO_i (lo := 0) (hi := 890) rfl (by decide)) ?_
                    intro m91 I92 W93
                    have F94 : Fr l_289 0 0 g μ m91 := F77.w W93 gA0 rfl
                    have p95 : LG g m91 := LG.fr p86 (Fr.f W93 gA0) rfl
                    have p96 : MT g m91 := MT.fr p87 (Fr.f W93 gA0) rfl
                    have p97 : LB g m91 := LB.fr p88 (Fr.f W93 gA0) rfl
                    have p98 : QF g m91 := QF.z I92 gA0 W93.at
                    have p99 : QH g m91 := QH.z I92 gA0 W93.at
                    refine w_t (np := 111) (l2 := [some (eR a0), some (eI (a1)), some (eI (a2)), some (eI (a3)), some (eI (v66)), some (eI (i73)), none, none, none]) (s2 := [eR a0]) rfl (s_an rfl (pos_g I92 gA0 (by decide))) rfl ?_
                    refine w_t (np := 112) (l2 := [some (eR a0), some (eI (a1)), some (eI (a2)), some (eI (a3)), some (eI (v66)), some (eI (i73)), none, none, none]) (s2 := [eI (a1), eR a0]) rfl rfl rfl ?_
                    refine w_t (np := 113) (l2 := [some (eR a0), some (eI (a1)), some (eI (a2)), some (eI (a3)), some (eI (v66)), some (eI (i73)), none, none, none]) (s2 := [eI (0), eI (a1), eR a0]) rfl rfl rfl ?_
                    refine w_cw (np := 116) (as := [eI (a1), eI (0)]) (l2 := [some (eR a0), some (eI (a1)), some (eI (0))]) (rest := []) rfl rfl rfl (Nat.ble_eq.mp rfl) rfl rfl rfl (I92.kd gA0 (by decide) (n := 69) rfl) rfl ?_
                    refine s_284h (a1 := a1) (a2 := 0) I92 gA0 (by omega) (by decide) W93.at (W93.slot k78 (by decide)) p98 p99 (by omega) (by omega) (by omega) ?_
                    intro m100 v103 v105 I101 F102 e104 e106 h107 h108 p109 p110 h111
                    have F112 : Fr l_289 0 0 g μ m100 := F94.t F102 rfl
                    have p113 : LG g m100 := LG.fr p95 F102 rfl
                    have p114 : MT g m100 := MT.fr p96 F102 rfl
                    have p115 : LB g m100 := LB.fr p97 F102 rfl
                    have b116 : 0 ≤ v103 ∧ v103 ≤ 890 := by
                      rw [← e104]
                      exact I101.int gA0 (by decide) (n := 69) rfl (by decide) rfl
                    have b117 : 0 ≤ v105 ∧ v105 ≤ 890 := by
                      rw [← e106]
                      exact I101.int gA0 (by decide) (n := 69) rfl (by decide) rfl
                    show ex_q (dt_fg L ρ) rc (d + 4, (289, 116, [some (eR a0), some (eI (a1)), some (eI (a2)), some (eI (a3)), some (eI (v66)), some (eI (i73)), none, none, none], []), f :: F, m100)
                    refine w_t (np := 117) (l2 := [some (eR a0), some (eI (a1)), some (eI (a2)), some (eI (a3)), some (eI (v66)), some (eI (i73)), none, none, none]) (s2 := [eI (0)]) rfl rfl rfl ?_
                    refine w_t (np := 119) (l2 := [some (eR a0), some (eI (a1)), some (eI (a2)), some (eI (a3)), some (eI (v66)), some (eI (0)), none, none, none]) (s2 := []) rfl rfl rfl ?_
                    have hL119 : ∀ (n118 : Nat) (m125 : eM) (i120 : Int) (o122 : Option eV) (o123 : Option eV) (o124 : Option eV) (x128 : Int), SI g m125 → Fr l_289 0 0 g μ m125 → (0 ≤ i120 ∧ i120 ≤ 890) → m125.1 a0 8 = v105 → m125.1 a0 25 = ((v16 : Nat) : Int) → m125.1 v16 (a1).toNat = v20 → m125.1 a0 1 = 0 → m125.1 a0 0 = 0 → m125.1 a0 22 = ((v40 : Nat) : Int) → m125.1 v40 (v44).toNat = v47 → m125.1 v40 (v56).toNat = v59 → m125.1 a0 41 = x128 → (0 ≤ x128 ∧ x128 ≤ 890) → LG g m125 → MT g m125 → LB g m125 → QF g m125 → QH g m125 → n118 = (890 - i120).toNat → ex_q (dt_fg L ρ) rc (d + 4, (289, 119, [some (eR a0), some (eI (a1)), some (eI (a2)), some (eI (a3)), some (eI (v66)), some (eI (i120)), o122, o123, o124], []), f :: F, m125) := by
                      intro n118
                      induction n118 using Nat.strongRecOn with
                      | _ n118 ih119 =>
                      intro m125 i120 o122 o123 o124 x128 I126 F127 b121 k131 k132 k133 k134 k135 k136 k137 k138 h129 b130 p139 p140 p141 p142 p143 hn144
                      refine w_t (np := 121) (l2 := [some (eR a0), some (eI (a1)), some (eI (a2)), some (eI (a3)), some (eI (v66)), some (eI (i120)), o122, o123, o124]) (s2 := [eI (i120)]) rfl rfl rfl ?_
                      refine w_t (np := 122) (l2 := [some (eR a0), some (eI (a1)), some (eI (a2)), some (eI (a3)), some (eI (v66)), some (eI (i120)), o122, o123, o124]) (s2 := [eR a0, eI (i120)]) rfl (s_an rfl (pos_g I126 gA0 (by decide))) rfl ?_
                      refine w_gf (np := 125) (v := eI (x128)) rfl rfl (I126.kd gA0 (by decide) (n := 69) rfl) (by rw [h129]; rfl) ?_
                      refine b_cge (t1 := 237) (t2 := 128) rfl rfl rfl (ev_w_in (by omega) (by omega)) (ev_w_in (by omega) (by omega)) (fun g145 => ?_) (fun g145 => ?_)
                      · refine w_t (np := 238) (l2 := [some (eR a0), some (eI (a1)), some (eI (a2)), some (eI (a3)), some (eI (v66)), some (eI (i120)), o122, o123, o124]) (s2 := [eI (a1)]) rfl rfl rfl ?_
                        refine w_t (np := 240) (l2 := [some (eR a0), some (eI (a1)), some (eI (a2)), some (eI (a3)), some (eI (v66)), some (eI (a1)), o122, o123, o124]) (s2 := []) rfl rfl rfl ?_
                        refine w_t (np := 241) (l2 := [some (eR a0), some (eI (a1)), some (eI (a2)), some (eI (a3)), some (eI (v66)), some (eI (a1)), o122, o123, o124]) (s2 := [eI (0)]) rfl rfl rfl ?_
                        refine w_t (np := 243) (l2 := [some (eR a0), some (eI (a1)), some (eI (a2)), some (eI (a3)), some (eI (v66)), some (eI (a1)), some (eI (0)), o123, o124]) (s2 := []) rfl rfl rfl ?_
                        have hL243 : ∀ (n146 : Nat) (m152 : eM) (i148 : Int) (i150 : Int), SI g m152 → Fr l_289 0 0 g μ m152 → (-2147483648 ≤ i148 ∧ i148 ≤ 2147483647) → (0 ≤ i150 ∧ i150 ≤ 890) → m152.1 a0 8 = v105 → m152.1 a0 25 = ((v16 : Nat) : Int) → m152.1 v16 (a1).toNat = v20 → m152.1 a0 1 = 0 → m152.1 a0 0 = 0 → m152.1 a0 22 = ((v40 : Nat) : Int) → m152.1 v40 (v44).toNat = v47 → m152.1 v40 (v56).toNat = v59 → m152.1 a0 41 = x128 → LG g m152 → MT g m152 → LB g m152 → QF g m152 → QH g m152 → n146 = (890 - i150).toNat → ex_q (dt_fg L ρ) rc (d + 4, (289, 243, [some (eR a0), some (eI (a1)), some (eI (a2)), some (eI (a3)), some (eI (v66)), some (eI (i148)), some (eI (i150)), o123, o124], []), f :: F, m152) := by
                          intro n146
                          induction n146 using Nat.strongRecOn with
                          | _ n146 ih147 =>
                          intro m152 i148 i150 I153 F154 b149 b151 k155 k156 k157 k158 k159 k160 k161 k162 k163 p164 p165 p166 p167 p168 hn169
                          refine w_t (np := 245) (l2 := [some (eR a0), some (eI (a1)), some (eI (a2)), some (eI (a3)), some (eI (v66)), some (eI (i148)), some (eI (i150)), o123, o124]) (s2 := [eI (i150)]) rfl rfl rfl ?_
                          refine w_t (np := 246) (l2 := [some (eR a0), some (eI (a1)), some (eI (a2)), some (eI (a3)), some (eI (v66)), some (eI (i148)), some (eI (i150)), o123, o124]) (s2 := [eR a0, eI (i150)]) rfl (s_an rfl (pos_g I153 gA0 (by decide))) rfl ?_
                          refine w_gf (np := 249) (v := eI (x128)) rfl rfl (I153.kd gA0 (by decide) (n := 69) rfl) (by rw [k163]; rfl) ?_
                          refine b_cge (t1 := 284) (t2 := 252) rfl rfl rfl (ev_w_in (by omega) (by omega)) (ev_w_in (by omega) (by omega)) (fun g170 => ?_) (fun g170 => ?_)
                          · refine w_t (np := 285) (l2 := [some (eR a0), some (eI (a1)), some (eI (a2)), some (eI (a3)), some (eI (v66)), some (eI (i148)), some (eI (i150)), o123, o124]) (s2 := [eI (a3)]) rfl rfl rfl ?_
                            refine b_ine (t1 := 297) (t2 := 288) rfl rfl rfl (ev_w_in (by omega) (by omega)) (fun g171 => ?_) (fun g171 => ?_)
                            · have b172 : 1 ≤ a3 ∧ a3 ≤ 1 := by omega
                              refine w_t (np := 299) (l2 := [some (eR a0), some (eI (a1)), some (eI (a2)), some (eI (a3)), some (eI (v66)), some (eI (i148)), some (eI (i150)), o123, o124]) (s2 := [eI (i148)]) rfl rfl rfl ?_
                              exact b_ri rfl rfl (K m152 (i148) I153 F154 (by omega))
                            · have b172 : 0 ≤ a3 ∧ a3 ≤ 0 := by omega
                              refine w_t (np := 289) (l2 := [some (eR a0), some (eI (a1)), some (eI (a2)), some (eI (a3)), some (eI (v66)), some (eI (i148)), some (eI (i150)), o123, o124]) (s2 := [eR a0]) rfl (s_an rfl (pos_g I153 gA0 (by decide))) rfl ?_
                              refine w_gf (np := 292) (v := eI (x128)) rfl rfl (I153.kd gA0 (by decide) (n := 69) rfl) (by rw [k163]; rfl) ?_
                              refine w_t (np := 293) (l2 := [some (eR a0), some (eI (a1)), some (eI (a2)), some (eI (a3)), some (eI (v66)), some (eI (i148)), some (eI (i150)), o123, o124]) (s2 := [eI (2), eI (x128)]) rfl rfl rfl ?_
                              obtain ⟨v172, e173, b174⟩ := h_idiv (a := x128) (k := 2) (by decide) (by decide) (show (-2147483648 : Int) ≤ x128 ∧ (x128 : Int) ≤ 2147483647 by omega)
                              have b176 : v172 = (x128) / 2 := b174.1 (by omega)
                              clear b174
                              have b175 : 0 ≤ v172 ∧ v172 ≤ 445 := by omega
                              refine w_t (np := 294) (l2 := [some (eR a0), some (eI (a1)), some (eI (a2)), some (eI (a3)), some (eI (v66)), some (eI (i148)), some (eI (i150)), o123, o124]) (s2 := [eI (v172)]) rfl (e173 _ _) rfl ?_
                              refine w_go (t1 := 299) rfl rfl ?_
                              exact b_ri rfl rfl (K m152 (v172) I153 F154 (by omega))
                          · have b171 : 0 ≤ i150 ∧ i150 ≤ 889 := by omega
                            have b172 : 1 ≤ x128 ∧ x128 ≤ 890 := by omega
                            refine w_t (np := 253) (l2 := [some (eR a0), some (eI (a1)), some (eI (a2)), some (eI (a3)), some (eI (v66)), some (eI (i148)), some (eI (i150)), o123, o124]) (s2 := [eR a0]) rfl (s_an rfl (pos_g I153 gA0 (by decide))) rfl ?_
                            refine j_gr (np := 256) rfl rfl I153 gA0 (by decide) (n := 69) rfl rfl rfl ?_
                            intro v171 e172 b173 z174
                            have b173 : g v171 = 77 := Nat.eq_of_beq_eq_true b173
                            refine w_t (np := 258) (l2 := [some (eR a0), some (eI (a1)), some (eI (a2)), some (eI (a3)), some (eI (v66)), some (eI (i148)), some (eI (i150)), o123, o124]) (s2 := [eI (i150), eR v171]) rfl rfl rfl ?_
                            refine j_al (np := 259) rfl rfl I153 b173 (by decide) (n := 890) rfl rfl (lo := 0) (hi := 889) (fun _ => rfl) (by omega) (by omega) ?_
                            intro v175 e176 b177
                            refine w_t (np := 261) (l2 := [some (eR a0), some (eI (a1)), some (eI (a2)), some (eI (a3)), some (eI (v66)), some (eI (i148)), some (eI (i150)), o123, o124]) (s2 := [eI (i148), eI (v175)]) rfl rfl rfl ?_
                            refine b_cge (t1 := 274) (t2 := 264) rfl rfl rfl (ev_w_in (by omega) (by omega)) (ev_w_in (by omega) (by omega)) (fun g178 => ?_) (fun g178 => ?_)
                            · have b179 : -2147483648 ≤ i148 ∧ i148 ≤ 889 := by omega
                              refine w_t (np := 276) (l2 := [some (eR a0), some (eI (a1)), some (eI (a2)), some (eI (a3)), some (eI (v66)), some (eI (i148)), some (eI (i150)), o123, o124]) (s2 := [eI (i148)]) rfl rfl rfl ?_
                              refine w_t (np := 278) (l2 := [some (eR a0), some (eI (a1)), some (eI (a2)), some (eI (a3)), some (eI (v66)), some (eI (i148)), some (eI (i150)), o123, o124]) (s2 := []) rfl rfl rfl ?_
                              obtain ⟨v179, e180⟩ : ∃ zz : Int, zz = (i150) + (1) := ⟨_, rfl⟩
                              have b181 : 1 ≤ v179 ∧ v179 ≤ 890 := by omega
                              refine w_t (np := 281) (l2 := [some (eR a0), some (eI (a1)), some (eI (a2)), some (eI (a3)), some (eI (v66)), some (eI (i148)), some (eI (v179)), o123, o124]) (s2 := []) rfl (b_iinc rfl (by rw [← e180]; exact ev_w_in (by omega) (by omega)) rfl) rfl ?_
                              refine w_go (t1 := 243) rfl rfl ?_
                              exact ih147 (890 - (v179)).toNat (by omega) m152 (i148) (v179) I153 F154 (by omega) (by omega) k155 k156 k157 k158 k159 k160 k161 k162 k163  p164 p165 p166 p167 p168  rfl
                            · have b179 : 1 ≤ i148 ∧ i148 ≤ 2147483647 := by omega
                              refine w_t (np := 265) (l2 := [some (eR a0), some (eI (a1)), some (eI (a2)), some (eI (a3)), some (eI (v66)), some (eI (i148)), some (eI (i150)), o123, o124]) (s2 := [eR a0]) rfl (s_an rfl (pos_g I153 gA0 (by decide))) rfl ?_
                              refine w_gf (np := 268) (v := eR v171) rfl rfl (I153.kd gA0 (by decide) (n := 69) rfl) (by rw [e172]; rfl) ?_
                              refine w_t (np := 270) (l2 := [some (eR a0), some (eI (a1)), some (eI (a2)), some (eI (a3)), some (eI (v66)), some (eI (i148)), some (eI (i150)), o123, o124]) (s2 := [eI (i150), eR v171]) rfl rfl rfl ?_
                              refine j_al (np := 271) rfl rfl I153 b173 (by decide) (n := 890) rfl rfl (lo := 0) (hi := 889) (fun _ => rfl) (by omega) (by omega) ?_
                              intro v179 e180 b181
                              have e180 := e180.symm.trans e176
                              rw [e180]
                              refine w_go (t1 := 276) rfl rfl ?_
                              refine w_t (np := 278) (l2 := [some (eR a0), some (eI (a1)), some (eI (a2)), some (eI (a3)), some (eI (v66)), some (eI (v175)), some (eI (i150)), o123, o124]) (s2 := []) rfl rfl rfl ?_
                              obtain ⟨v182, e183⟩ : ∃ zz : Int, zz = (i150) + (1) := ⟨_, rfl⟩
                              have b184 : 1 ≤ v182 ∧ v182 ≤ 890 := by omega
                              refine w_t (np := 281) (l2 := [some (eR a0), some (eI (a1)), some (eI (a2)), some (eI (a3)), some (eI (v66)), some (eI (v175)), some (eI (v182)), o123, o124]) (s2 := []) rfl (b_iinc rfl (by rw [← e183]; exact ev_w_in (by omega) (by omega)) rfl) rfl ?_
                              refine w_go (t1 := 243) rfl rfl ?_
                              exact ih147 (890 - (v182)).toNat (by omega) m152 (v175) (v182) I153 F154 (by omega) (by omega) k155 k156 k157 k158 k159 k160 k161 k162 k163  p164 p165 p166 p167 p168  rfl
                        exact hL243 _ m125 (a1) (0) I126 F127 (by omega) (by decide) k131 k132 k133 k134 k135 k136 k137 k138 h129  p139 p140 p141 p142 p143  rfl
                      · have b146 : 0 ≤ i120 ∧ i120 ≤ 889 := by omega
                        have b147 : 1 ≤ x128 ∧ x128 ≤ 890 := by omega
                        refine w_t (np := 129) (l2 := [some (eR a0), some (eI (a1)), some (eI (a2)), some (eI (a3)), some (eI (v66)), some (eI (i120)), o122, o123, o124]) (s2 := [eR a0]) rfl (s_an rfl (pos_g I126 gA0 (by decide))) rfl ?_
                        refine j_gr (np := 132) rfl rfl I126 gA0 (by decide) (n := 69) rfl rfl rfl ?_
                        intro v146 e147 b148 z149
                        have b148 : g v146 = 77 := Nat.eq_of_beq_eq_true b148
                        refine w_t (np := 134) (l2 := [some (eR a0), some (eI (a1)), some (eI (a2)), some (eI (a3)), some (eI (v66)), some (eI (i120)), o122, o123, o124]) (s2 := [eI (i120), eR v146]) rfl rfl rfl ?_
                        refine j_al (np := 135) rfl rfl I126 b148 (by decide) (n := 890) rfl rfl (lo := 0) (hi := 889) (fun _ => rfl) (by omega) (by omega) ?_
                        intro v150 e151 b152
                        refine w_t (np := 137) (l2 := [some (eR a0), some (eI (a1)), some (eI (a2)), some (eI (a3)), some (eI (v66)), some (eI (i120)), some (eI (v150)), o123, o124]) (s2 := []) rfl rfl rfl ?_
                        obtain ⟨v153, e154, b155, z156⟩ := I126.ref (k := 26) gA0 (by decide) (n := 69) rfl (by decide) rfl
                        have b155 : g v153 = 68 := Nat.eq_of_beq_eq_true b155
                        obtain ⟨v157, e158, b159, z160⟩ := I126.ref (k := 27) gA0 (by decide) (n := 69) rfl (by decide) rfl
                        have b159 : g v157 = 69 := Nat.eq_of_beq_eq_true b159
                        have h161 := QH.at p143 gA0 b148 h129 k131 (show 0 ≤ i120 ∧ i120 < x128 by omega) e151
                        have h162 := LB.b (i := v150) p141 gA0 b155 b159 k131 (by omega)
                        have h163 : 0 ≤ m125.1 v16 (v150).toNat → m125.1 v16 (v150).toNat < v105 := MT.b p140 gA0 ⟨v40, b42⟩ b18 k131 (by omega)
                        refine w_t (np := 138) (l2 := [some (eR a0), some (eI (a1)), some (eI (a2)), some (eI (a3)), some (eI (v66)), some (eI (i120)), some (eI (v150)), o123, o124]) (s2 := [eR a0]) rfl (s_an rfl (pos_g I126 gA0 (by decide))) rfl ?_
                        refine w_t (np := 139) (l2 := [some (eR a0), some (eI (a1)), some (eI (a2)), some (eI (a3)), some (eI (v66)), some (eI (i120)), some (eI (v150)), o123, o124]) (s2 := [eR a0, eR a0]) rfl (s_an rfl (pos_g I126 gA0 (by decide))) rfl ?_
                        refine w_gf (np := 142) (v := eR v16) rfl rfl (I126.kd gA0 (by decide) (n := 69) rfl) (by rw [k132]; rfl) ?_
                        refine w_t (np := 144) (l2 := [some (eR a0), some (eI (a1)), some (eI (a2)), some (eI (a3)), some (eI (v66)), some (eI (i120)), some (eI (v150)), o123, o124]) (s2 := [eI (v150), eR v16, eR a0]) rfl rfl rfl ?_
                        refine j_al (np := 145) rfl rfl I126 b18 (by decide) (n := 890) rfl rfl (lo := -1) (hi := 889) (fun _ => rfl) (by omega) (by omega) ?_
                        intro v165 e166 b167
                        have h168 : 0 ≤ v165 → v165 < v105 := fun z9 => by have z8 := MT.b (i := v150) p140 gA0 ⟨_, b42⟩ b18 k131 (by omega) (by rw [e166]; exact z9); rw [e166] at z8; exact z8
                        refine w_t (np := 146) (l2 := [some (eR a0), some (eI (a1)), some (eI (a2)), some (eI (a3)), some (eI (v66)), some (eI (i120)), some (eI (v150)), o123, o124]) (s2 := [eI (0), eI (v165), eR a0]) rfl rfl rfl ?_
                        refine w_cw (np := 149) (as := [eI (v165), eI (0)]) (l2 := [some (eR a0), some (eI (v165)), some (eI (0))]) (rest := []) rfl rfl rfl (Nat.ble_eq.mp rfl) rfl rfl rfl (I126.kd gA0 (by decide) (n := 69) rfl) rfl ?_
                        refine s_284h (a1 := v165) (a2 := 0) I126 gA0 (by omega) (by decide) h129 k131 p142 p143 (by omega) (by omega) (by omega) ?_
                        intro m169 v172 v174 I170 F171 e173 e175 h176 h177 p178 p179 h180
                        have F181 : Fr l_289 0 0 g μ m169 := F127.t F171 rfl
                        have p182 : LG g m169 := LG.fr p139 F171 rfl
                        have p183 : MT g m169 := MT.fr p140 F171 rfl
                        have p184 : LB g m169 := LB.fr p141 F171 rfl
                        have b185 : 0 ≤ v172 ∧ v172 ≤ 890 := by
                          rw [← e173]
                          exact I170.int gA0 (by decide) (n := 69) rfl (by decide) rfl
                        have b186 : 0 ≤ v174 ∧ v174 ≤ 890 := by
                          rw [← e175]
                          exact I170.int gA0 (by decide) (n := 69) rfl (by decide) rfl
                        show ex_q (dt_fg L ρ) rc (d + 4, (289, 149, [some (eR a0), some (eI (a1)), some (eI (a2)), some (eI (a3)), some (eI (v66)), some (eI (i120)), some (eI (v150)), o123, o124], []), f :: F, m169)
                        refine w_t (np := 150) (l2 := [some (eR a0), some (eI (a1)), some (eI (a2)), some (eI (a3)), some (eI (v66)), some (eI (i120)), some (eI (v150)), o123, o124]) (s2 := [eI (0)]) rfl rfl rfl ?_
                        refine w_t (np := 152) (l2 := [some (eR a0), some (eI (a1)), some (eI (a2)), some (eI (a3)), some (eI (v66)), some (eI (i120)), some (eI (v150)), some (eI (0)), o124]) (s2 := []) rfl rfl rfl ?_
                        have hL152 : ∀ (n187 : Nat) (m192 : eM) (i189 : Int) (o191 : Option eV) (x195 : Int), SI g m192 → Fr l_289 0 0 g μ m192 → (0 ≤ i189 ∧ i189 ≤ 2) → m192.1 a0 8 = v174 → m192.1 a0 25 = ((v16 : Nat) : Int) → m192.1 v16 (a1).toNat = v20 → m192.1 a0 1 = 0 → m192.1 a0 0 = 0 → m192.1 a0 22 = ((v40 : Nat) : Int) → m192.1 v40 (v44).toNat = v47 → m192.1 v40 (v56).toNat = v59 → m192.1 a0 40 = ((v146 : Nat) : Int) → m192.1 a0 26 = ((v153 : Nat) : Int) → m192.1 a0 27 = ((v157 : Nat) : Int) → m192.1 v16 (v150).toNat = v165 → m192.1 a0 41 = x195 → (0 ≤ x195 ∧ x195 ≤ 890) → LG g m192 → MT g m192 → LB g m192 → QF g m192 → QH g m192 → i120 < x195 → n187 = (2 - i189).toNat → ex_q (dt_fg L ρ) rc (d + 4, (289, 152, [some (eR a0), some (eI (a1)), some (eI (a2)), some (eI (a3)), some (eI (v66)), some (eI (i120)), some (eI (v150)), some (eI (i189)), o191], []), f :: F, m192) := by
                          intro n187
                          induction n187 using Nat.strongRecOn with
                          | _ n187 ih188 =>
                          intro m192 i189 o191 x195 I193 F194 b190 k198 k199 k200 k201 k202 k203 k204 k205 k206 k207 k208 k209 h196 b197 p210 p211 p212 p213 p214 r215 hn216
                          refine w_t (np := 154) (l2 := [some (eR a0), some (eI (a1)), some (eI (a2)), some (eI (a3)), some (eI (v66)), some (eI (i120)), some (eI (v150)), some (eI (i189)), o191]) (s2 := [eI (i189)]) rfl rfl rfl ?_
                          refine w_t (np := 155) (l2 := [some (eR a0), some (eI (a1)), some (eI (a2)), some (eI (a3)), some (eI (v66)), some (eI (i120)), some (eI (v150)), some (eI (i189)), o191]) (s2 := [eI (2), eI (i189)]) rfl rfl rfl ?_
                          refine b_cge (t1 := 231) (t2 := 158) rfl rfl rfl (ev_w_in (by omega) (by omega)) rfl (fun g217 => ?_) (fun g217 => ?_)
                          · have b218 : 2 ≤ i189 ∧ i189 ≤ 2 := by omega
                            obtain ⟨v218, e219⟩ : ∃ zz : Int, zz = (i120) + (1) := ⟨_, rfl⟩
                            have b220 : 1 ≤ v218 ∧ v218 ≤ 890 := by omega
                            refine w_t (np := 234) (l2 := [some (eR a0), some (eI (a1)), some (eI (a2)), some (eI (a3)), some (eI (v66)), some (eI (v218)), some (eI (v150)), some (eI (i189)), o191]) (s2 := []) rfl (b_iinc rfl (by rw [← e219]; exact ev_w_in (by omega) (by omega)) rfl) rfl ?_
                            refine w_go (t1 := 119) rfl rfl ?_
                            exact ih119 (890 - (v218)).toNat (by omega) m192 (v218) (some (eI (v150))) (some (eI (i189))) (o191) (x195) I193 F194 (by omega) ((k198).trans (show v174 = v105 by omega)) k199 k200 k201 k202 k203 k204 k205 h196 (by omega) p210 p211 p212 p213 p214  rfl
                          · have b218 : 0 ≤ i189 ∧ i189 ≤ 1 := by omega
                            refine w_t (np := 160) (l2 := [some (eR a0), some (eI (a1)), some (eI (a2)), some (eI (a3)), some (eI (v66)), some (eI (i120)), some (eI (v150)), some (eI (i189)), o191]) (s2 := [eI (i189)]) rfl rfl rfl ?_
                            refine b_ine (t1 := 173) (t2 := 163) rfl rfl rfl (ev_w_in (by omega) (by omega)) (fun g218 => ?_) (fun g218 => ?_)
                            · have b219 : 1 ≤ i189 ∧ i189 ≤ 1 := by omega
                              refine w_t (np := 174) (l2 := [some (eR a0), some (eI (a1)), some (eI (a2)), some (eI (a3)), some (eI (v66)), some (eI (i120)), some (eI (v150)), some (eI (i189)), o191]) (s2 := [eR a0]) rfl (s_an rfl (pos_g I193 gA0 (by decide))) rfl ?_
                              refine w_gf (np := 177) (v := eR v157) rfl rfl (I193.kd gA0 (by decide) (n := 69) rfl) (by rw [k208]; rfl) ?_
                              refine w_t (np := 179) (l2 := [some (eR a0), some (eI (a1)), some (eI (a2)), some (eI (a3)), some (eI (v66)), some (eI (i120)), some (eI (v150)), some (eI (i189)), o191]) (s2 := [eI (v150), eR v157]) rfl rfl rfl ?_
                              refine j_al (np := 180) rfl rfl I193 b159 (by decide) (n := 890) rfl rfl (lo := -1) (hi := 889) (fun _ => rfl) (by omega) (by omega) ?_
                              intro v219 e220 b221
                              have h222 : v219 < v174 := by
                                have z8 := (LB.b (i := v150) p212 gA0 b155 b159 k198 (by omega)).2
                                rw [e220] at z8
                                exact z8
                              refine w_t (np := 182) (l2 := [some (eR a0), some (eI (a1)), some (eI (a2)), some (eI (a3)), some (eI (v66)), some (eI (i120)), some (eI (v150)), some (eI (i189)), some (eI (v219))]) (s2 := []) rfl rfl rfl ?_
                              refine w_t (np := 184) (l2 := [some (eR a0), some (eI (a1)), some (eI (a2)), some (eI (a3)), some (eI (v66)), some (eI (i120)), some (eI (v150)), some (eI (i189)), some (eI (v219))]) (s2 := [eI (v219)]) rfl rfl rfl ?_
                              refine b_ilt (t1 := 225) (t2 := 187) rfl rfl rfl (ev_w_in (by omega) (by omega)) (fun g223 => ?_) (fun g223 => ?_)
                              · have b224 : -1 ≤ v219 ∧ v219 ≤ -1 := by omega
                                obtain ⟨v224, e225⟩ : ∃ zz : Int, zz = (i189) + (1) := ⟨_, rfl⟩
                                have b226 : 2 ≤ v224 ∧ v224 ≤ 2 := by omega
                                refine w_t (np := 228) (l2 := [some (eR a0), some (eI (a1)), some (eI (a2)), some (eI (a3)), some (eI (v66)), some (eI (i120)), some (eI (v150)), some (eI (v224)), some (eI (v219))]) (s2 := []) rfl (b_iinc rfl (by rw [← e225]; exact ev_w_in (by omega) (by omega)) rfl) rfl ?_
                                refine w_go (t1 := 152) rfl rfl ?_
                                exact ih188 (2 - (v224)).toNat (by omega) m192 (v224) (some (eI (v219))) (x195) I193 F194 (by omega) k198 k199 k200 k201 k202 k203 k204 k205 k206 k207 k208 k209 h196 (by omega) p210 p211 p212 p213 p214 (by omega) rfl
                              · have b224 : 0 ≤ v219 ∧ v219 ≤ 889 := by omega
                                refine w_t (np := 188) (l2 := [some (eR a0), some (eI (a1)), some (eI (a2)), some (eI (a3)), some (eI (v66)), some (eI (i120)), some (eI (v150)), some (eI (i189)), some (eI (v219))]) (s2 := [eR a0]) rfl (s_an rfl (pos_g I193 gA0 (by decide))) rfl ?_
                                refine w_gf (np := 191) (v := eR v16) rfl rfl (I193.kd gA0 (by decide) (n := 69) rfl) (by rw [k199]; rfl) ?_
                                refine w_t (np := 193) (l2 := [some (eR a0), some (eI (a1)), some (eI (a2)), some (eI (a3)), some (eI (v66)), some (eI (i120)), some (eI (v150)), some (eI (i189)), some (eI (v219))]) (s2 := [eI (v219), eR v16]) rfl rfl rfl ?_
                                refine j_al (np := 194) rfl rfl I193 b18 (by decide) (n := 890) rfl rfl (lo := -1) (hi := 889) (fun _ => rfl) (by omega) (by omega) ?_
                                intro v224 e225 b226
                                refine b_ilt (t1 := 225) (t2 := 197) rfl rfl rfl (ev_w_in (by omega) (by omega)) (fun g227 => ?_) (fun g227 => ?_)
                                · have b228 : -1 ≤ v224 ∧ v224 ≤ -1 := by omega
                                  obtain ⟨v228, e229⟩ : ∃ zz : Int, zz = (i189) + (1) := ⟨_, rfl⟩
                                  have b230 : 2 ≤ v228 ∧ v228 ≤ 2 := by omega
                                  refine w_t (np := 228) (l2 := [some (eR a0), some (eI (a1)), some (eI (a2)), some (eI (a3)), some (eI (v66)), some (eI (i120)), some (eI (v150)), some (eI (v228)), some (eI (v219))]) (s2 := []) rfl (b_iinc rfl (by rw [← e229]; exact ev_w_in (by omega) (by omega)) rfl) rfl ?_
                                  refine w_go (t1 := 152) rfl rfl ?_
                                  exact ih188 (2 - (v228)).toNat (by omega) m192 (v228) (some (eI (v219))) (x195) I193 F194 (by omega) k198 k199 k200 k201 k202 k203 k204 k205 k206 k207 k208 k209 h196 (by omega) p210 p211 p212 p213 p214 (by omega) rfl
                                · have b228 : 0 ≤ v224 ∧ v224 ≤ 889 := by omega
                                  refine w_t (np := 198) (l2 := [some (eR a0), some (eI (a1)), some (eI (a2)), some (eI (a3)), some (eI (v66)), some (eI (i120)), some (eI (v150)), some (eI (i189)), some (eI (v219))]) (s2 := [eR a0]) rfl (s_an rfl (pos_g I193 gA0 (by decide))) rfl ?_
                                  refine w_t (np := 200) (l2 := [some (eR a0), some (eI (a1)), some (eI (a2)), some (eI (a3)), some (eI (v66)), some (eI (i120)), some (eI (v150)), some (eI (i189)), some (eI (v219))]) (s2 := [eI (v150), eR a0]) rfl rfl rfl ?_
                                  refine w_t (np := 202) (l2 := [some (eR a0), some (eI (a1)), some (eI (a2)), some (eI (a3)), some (eI (v66)), some (eI (i120)), some (eI (v150)), some (eI (i189)), some (eI (v219))]) (s2 := [eI (i189), eI (v150), eR a0]) rfl rfl rfl ?_
                                  refine b_ine (t1 := 209) (t2 := 205) rfl rfl rfl (ev_w_in (by omega) (by omega)) (fun g228 => ?_) (fun g228 => False.elim (by omega))
                                  refine w_t (np := 210) (l2 := [some (eR a0), some (eI (a1)), some (eI (a2)), some (eI (a3)), some (eI (v66)), some (eI (i120)), some (eI (v150)), some (eI (i189)), some (eI (v219))]) (s2 := [eI (0), eI (v150), eR a0]) rfl rfl rfl ?_
                                  refine w_t (np := 212) (l2 := [some (eR a0), some (eI (a1)), some (eI (a2)), some (eI (a3)), some (eI (v66)), some (eI (i120)), some (eI (v150)), some (eI (i189)), some (eI (v219))]) (s2 := [eI (v66), eI (0), eI (v150), eR a0]) rfl rfl rfl ?_
                                  refine w_cw (np := 215) (as := [eI (v150), eI (0), eI (v66)]) (l2 := [some (eR a0), some (eI (v150)), some (eI (0)), some (eI (v66))]) (rest := []) rfl rfl rfl (Nat.ble_eq.mp rfl) rfl rfl rfl (I193.kd gA0 (by decide) (n := 69) rfl) rfl ?_
                                  refine s_288 (a1 := v150) (a2 := 0) (a3 := v66) I193 gA0 (by omega) (by decide) (by omega) k198 p210 (by omega) ?_
                                  intro v229 b230
                                  show ex_q (dt_fg L ρ) rc (d + 4, (289, 215, [some (eR a0), some (eI (a1)), some (eI (a2)), some (eI (a3)), some (eI (v66)), some (eI (i120)), some (eI (v150)), some (eI (i189)), some (eI (v219))], [eI (v229)]), f :: F, m192)
                                  refine b_ieq (t1 := 225) (t2 := 218) rfl rfl rfl (ev_w_in (by omega) (by omega)) (fun g231 => ?_) (fun g231 => ?_)
                                  · have b232 : 0 ≤ v229 ∧ v229 ≤ 0 := by omega
                                    obtain ⟨v232, e233⟩ : ∃ zz : Int, zz = (i189) + (1) := ⟨_, rfl⟩
                                    have b234 : 2 ≤ v232 ∧ v232 ≤ 2 := by omega
                                    refine w_t (np := 228) (l2 := [some (eR a0), some (eI (a1)), some (eI (a2)), some (eI (a3)), some (eI (v66)), some (eI (i120)), some (eI (v150)), some (eI (v232)), some (eI (v219))]) (s2 := []) rfl (b_iinc rfl (by rw [← e233]; exact ev_w_in (by omega) (by omega)) rfl) rfl ?_
                                    refine w_go (t1 := 152) rfl rfl ?_
                                    exact ih188 (2 - (v232)).toNat (by omega) m192 (v232) (some (eI (v219))) (x195) I193 F194 (by omega) k198 k199 k200 k201 k202 k203 k204 k205 k206 k207 k208 k209 h196 (by omega) p210 p211 p212 p213 p214 (by omega) rfl
                                  · have b232 : 1 ≤ v229 ∧ v229 ≤ 1 := by omega
                                    refine w_t (np := 219) (l2 := [some (eR a0), some (eI (a1)), some (eI (a2)), some (eI (a3)), some (eI (v66)), some (eI (i120)), some (eI (v150)), some (eI (i189)), some (eI (v219))]) (s2 := [eR a0]) rfl (s_an rfl (pos_g I193 gA0 (by decide))) rfl ?_
                                    refine w_t (np := 221) (l2 := [some (eR a0), some (eI (a1)), some (eI (a2)), some (eI (a3)), some (eI (v66)), some (eI (i120)), some (eI (v150)), some (eI (i189)), some (eI (v219))]) (s2 := [eI (v219), eR a0]) rfl rfl rfl ?_
                                    refine w_t (np := 222) (l2 := [some (eR a0), some (eI (a1)), some (eI (a2)), some (eI (a3)), some (eI (v66)), some (eI (i120)), some (eI (v150)), some (eI (i189)), some (eI (v219))]) (s2 := [eI (0), eI (v219), eR a0]) rfl rfl rfl ?_
                                    refine w_cw (np := 225) (as := [eI (v219), eI (0)]) (l2 := [some (eR a0), some (eI (v219)), some (eI (0))]) (rest := []) rfl rfl rfl (Nat.ble_eq.mp rfl) rfl rfl rfl (I193.kd gA0 (by decide) (n := 69) rfl) rfl ?_
                                    refine s_284h (a1 := v219) (a2 := 0) I193 gA0 (by omega) (by decide) h196 k198 p213 p214 (by omega) (by omega) (by omega) ?_
                                    intro m232 v235 v237 I233 F234 e236 e238 h239 h240 p241 p242 h243
                                    have F244 : Fr l_289 0 0 g μ m232 := F194.t F234 rfl
                                    have p245 : LG g m232 := LG.fr p210 F234 rfl
                                    have p246 : MT g m232 := MT.fr p211 F234 rfl
                                    have p247 : LB g m232 := LB.fr p212 F234 rfl
                                    have b248 : 0 ≤ v235 ∧ v235 ≤ 890 := by
                                      rw [← e236]
                                      exact I233.int gA0 (by decide) (n := 69) rfl (by decide) rfl
                                    have b249 : 0 ≤ v237 ∧ v237 ≤ 890 := by
                                      rw [← e238]
                                      exact I233.int gA0 (by decide) (n := 69) rfl (by decide) rfl
                                    show ex_q (dt_fg L ρ) rc (d + 4, (289, 225, [some (eR a0), some (eI (a1)), some (eI (a2)), some (eI (a3)), some (eI (v66)), some (eI (i120)), some (eI (v150)), some (eI (i189)), some (eI (v219))], []), f :: F, m232)
                                    obtain ⟨v250, e251⟩ : ∃ zz : Int, zz = (i189) + (1) := ⟨_, rfl⟩
                                    have b252 : 2 ≤ v250 ∧ v250 ≤ 2 := by omega
                                    refine w_t (np := 228) (l2 := [some (eR a0), some (eI (a1)), some (eI (a2)), some (eI (a3)), some (eI (v66)), some (eI (i120)), some (eI (v150)), some (eI (v250)), some (eI (v219))]) (s2 := []) rfl (b_iinc rfl (by rw [← e251]; exact ev_w_in (by omega) (by omega)) rfl) rfl ?_
                                    refine w_go (t1 := 152) rfl rfl ?_
                                    exact ih188 (2 - (v250)).toNat (by omega) m232 (v250) (some (eI (v219))) (v235) I233 F244 (by omega) ((e238).trans (show v237 = v174 by omega)) (F234.k k199 gA0 (by decide) rfl) (F234.kr k200 b18 (by decide) rfl rfl) (F234.k k201 gA0 (by decide) rfl) (F234.k k202 gA0 (by decide) rfl) (F234.k k203 gA0 (by decide) rfl) (F234.kr k204 b42 (by decide) rfl rfl) (F234.kr k205 b42 (by decide) rfl rfl) (F234.k k206 gA0 (by decide) rfl) (F234.k k207 gA0 (by decide) rfl) (F234.k k208 gA0 (by decide) rfl) (F234.kr k209 b18 (by decide) rfl rfl) e236 (by omega) p245 p246 p247 p241 p242 (by omega) rfl
                            · have b219 : 0 ≤ i189 ∧ i189 ≤ 0 := by omega
                              refine w_t (np := 164) (l2 := [some (eR a0), some (eI (a1)), some (eI (a2)), some (eI (a3)), some (eI (v66)), some (eI (i120)), some (eI (v150)), some (eI (i189)), o191]) (s2 := [eR a0]) rfl (s_an rfl (pos_g I193 gA0 (by decide))) rfl ?_
                              refine w_gf (np := 167) (v := eR v153) rfl rfl (I193.kd gA0 (by decide) (n := 69) rfl) (by rw [k207]; rfl) ?_
                              refine w_t (np := 169) (l2 := [some (eR a0), some (eI (a1)), some (eI (a2)), some (eI (a3)), some (eI (v66)), some (eI (i120)), some (eI (v150)), some (eI (i189)), o191]) (s2 := [eI (v150), eR v153]) rfl rfl rfl ?_
                              refine j_al (np := 170) rfl rfl I193 b155 (by decide) (n := 890) rfl rfl (lo := -1) (hi := 889) (fun _ => rfl) (by omega) (by omega) ?_
                              intro v219 e220 b221
                              have h222 : v219 < v174 := by
                                have z8 := (LB.b (i := v150) p212 gA0 b155 b159 k198 (by omega)).1
                                rw [e220] at z8
                                exact z8
                              refine w_go (t1 := 180) rfl rfl ?_
                              refine w_t (np := 182) (l2 := [some (eR a0), some (eI (a1)), some (eI (a2)), some (eI (a3)), some (eI (v66)), some (eI (i120)), some (eI (v150)), some (eI (i189)), some (eI (v219))]) (s2 := []) rfl rfl rfl ?_
                              refine w_t (np := 184) (l2 := [some (eR a0), some (eI (a1)), some (eI (a2)), some (eI (a3)), some (eI (v66)), some (eI (i120)), some (eI (v150)), some (eI (i189)), some (eI (v219))]) (s2 := [eI (v219)]) rfl rfl rfl ?_
                              refine b_ilt (t1 := 225) (t2 := 187) rfl rfl rfl (ev_w_in (by omega) (by omega)) (fun g223 => ?_) (fun g223 => ?_)
                              · have b224 : -1 ≤ v219 ∧ v219 ≤ -1 := by omega
                                obtain ⟨v224, e225⟩ : ∃ zz : Int, zz = (i189) + (1) := ⟨_, rfl⟩
                                have b226 : 1 ≤ v224 ∧ v224 ≤ 1 := by omega
                                refine w_t (np := 228) (l2 := [some (eR a0), some (eI (a1)), some (eI (a2)), some (eI (a3)), some (eI (v66)), some (eI (i120)), some (eI (v150)), some (eI (v224)), some (eI (v219))]) (s2 := []) rfl (b_iinc rfl (by rw [← e225]; exact ev_w_in (by omega) (by omega)) rfl) rfl ?_
                                refine w_go (t1 := 152) rfl rfl ?_
                                exact ih188 (2 - (v224)).toNat (by omega) m192 (v224) (some (eI (v219))) (x195) I193 F194 (by omega) k198 k199 k200 k201 k202 k203 k204 k205 k206 k207 k208 k209 h196 (by omega) p210 p211 p212 p213 p214 (by omega) rfl
                              · have b224 : 0 ≤ v219 ∧ v219 ≤ 889 := by omega
                                refine w_t (np := 188) (l2 := [some (eR a0), some (eI (a1)), some (eI (a2)), some (eI (a3)), some (eI (v66)), some (eI (i120)), some (eI (v150)), some (eI (i189)), some (eI (v219))]) (s2 := [eR a0]) rfl (s_an rfl (pos_g I193 gA0 (by decide))) rfl ?_
                                refine w_gf (np := 191) (v := eR v16) rfl rfl (I193.kd gA0 (by decide) (n := 69) rfl) (by rw [k199]; rfl) ?_
                                refine w_t (np := 193) (l2 := [some (eR a0), some (eI (a1)), some (eI (a2)), some (eI (a3)), some (eI (v66)), some (eI (i120)), some (eI (v150)), some (eI (i189)), some (eI (v219))]) (s2 := [eI (v219), eR v16]) rfl rfl rfl ?_
                                refine j_al (np := 194) rfl rfl I193 b18 (by decide) (n := 890) rfl rfl (lo := -1) (hi := 889) (fun _ => rfl) (by omega) (by omega) ?_
                                intro v224 e225 b226
                                refine b_ilt (t1 := 225) (t2 := 197) rfl rfl rfl (ev_w_in (by omega) (by omega)) (fun g227 => ?_) (fun g227 => ?_)
                                · have b228 : -1 ≤ v224 ∧ v224 ≤ -1 := by omega
                                  obtain ⟨v228, e229⟩ : ∃ zz : Int, zz = (i189) + (1) := ⟨_, rfl⟩
                                  have b230 : 1 ≤ v228 ∧ v228 ≤ 1 := by omega
                                  refine w_t (np := 228) (l2 := [some (eR a0), some (eI (a1)), some (eI (a2)), some (eI (a3)), some (eI (v66)), some (eI (i120)), some (eI (v150)), some (eI (v228)), some (eI (v219))]) (s2 := []) rfl (b_iinc rfl (by rw [← e229]; exact ev_w_in (by omega) (by omega)) rfl) rfl ?_
                                  refine w_go (t1 := 152) rfl rfl ?_
                                  exact ih188 (2 - (v228)).toNat (by omega) m192 (v228) (some (eI (v219))) (x195) I193 F194 (by omega) k198 k199 k200 k201 k202 k203 k204 k205 k206 k207 k208 k209 h196 (by omega) p210 p211 p212 p213 p214 (by omega) rfl
                                · have b228 : 0 ≤ v224 ∧ v224 ≤ 889 := by omega
                                  refine w_t (np := 198) (l2 := [some (eR a0), some (eI (a1)), some (eI (a2)), some (eI (a3)), some (eI (v66)), some (eI (i120)), some (eI (v150)), some (eI (i189)), some (eI (v219))]) (s2 := [eR a0]) rfl (s_an rfl (pos_g I193 gA0 (by decide))) rfl ?_
                                  refine w_t (np := 200) (l2 := [some (eR a0), some (eI (a1)), some (eI (a2)), some (eI (a3)), some (eI (v66)), some (eI (i120)), some (eI (v150)), some (eI (i189)), some (eI (v219))]) (s2 := [eI (v150), eR a0]) rfl rfl rfl ?_
                                  refine w_t (np := 202) (l2 := [some (eR a0), some (eI (a1)), some (eI (a2)), some (eI (a3)), some (eI (v66)), some (eI (i120)), some (eI (v150)), some (eI (i189)), some (eI (v219))]) (s2 := [eI (i189), eI (v150), eR a0]) rfl rfl rfl ?_
                                  refine b_ine (t1 := 209) (t2 := 205) rfl rfl rfl (ev_w_in (by omega) (by omega)) (fun g228 => False.elim (by omega)) (fun g228 => ?_)
                                  refine w_t (np := 206) (l2 := [some (eR a0), some (eI (a1)), some (eI (a2)), some (eI (a3)), some (eI (v66)), some (eI (i120)), some (eI (v150)), some (eI (i189)), some (eI (v219))]) (s2 := [eI (1), eI (v150), eR a0]) rfl rfl rfl ?_
                                  refine w_go (t1 := 210) rfl rfl ?_
                                  refine w_t (np := 212) (l2 := [some (eR a0), some (eI (a1)), some (eI (a2)), some (eI (a3)), some (eI (v66)), some (eI (i120)), some (eI (v150)), some (eI (i189)), some (eI (v219))]) (s2 := [eI (v66), eI (1), eI (v150), eR a0]) rfl rfl rfl ?_
                                  refine w_cw (np := 215) (as := [eI (v150), eI (1), eI (v66)]) (l2 := [some (eR a0), some (eI (v150)), some (eI (1)), some (eI (v66))]) (rest := []) rfl rfl rfl (Nat.ble_eq.mp rfl) rfl rfl rfl (I193.kd gA0 (by decide) (n := 69) rfl) rfl ?_
                                  refine s_288 (a1 := v150) (a2 := 1) (a3 := v66) I193 gA0 (by omega) (by decide) (by omega) k198 p210 (by omega) ?_
                                  intro v229 b230
                                  show ex_q (dt_fg L ρ) rc (d + 4, (289, 215, [some (eR a0), some (eI (a1)), some (eI (a2)), some (eI (a3)), some (eI (v66)), some (eI (i120)), some (eI (v150)), some (eI (i189)), some (eI (v219))], [eI (v229)]), f :: F, m192)
                                  refine b_ieq (t1 := 225) (t2 := 218) rfl rfl rfl (ev_w_in (by omega) (by omega)) (fun g231 => ?_) (fun g231 => ?_)
                                  · have b232 : 0 ≤ v229 ∧ v229 ≤ 0 := by omega
                                    obtain ⟨v232, e233⟩ : ∃ zz : Int, zz = (i189) + (1) := ⟨_, rfl⟩
                                    have b234 : 1 ≤ v232 ∧ v232 ≤ 1 := by omega
                                    refine w_t (np := 228) (l2 := [some (eR a0), some (eI (a1)), some (eI (a2)), some (eI (a3)), some (eI (v66)), some (eI (i120)), some (eI (v150)), some (eI (v232)), some (eI (v219))]) (s2 := []) rfl (b_iinc rfl (by rw [← e233]; exact ev_w_in (by omega) (by omega)) rfl) rfl ?_
                                    refine w_go (t1 := 152) rfl rfl ?_
                                    exact ih188 (2 - (v232)).toNat (by omega) m192 (v232) (some (eI (v219))) (x195) I193 F194 (by omega) k198 k199 k200 k201 k202 k203 k204 k205 k206 k207 k208 k209 h196 (by omega) p210 p211 p212 p213 p214 (by omega) rfl
                                  · have b232 : 1 ≤ v229 ∧ v229 ≤ 1 := by omega
                                    refine w_t (np := 219) (l2 := [some (eR a0), some (eI (a1)), some (eI (a2)), some (eI (a3)), some (eI (v66)), some (eI (i120)), some (eI (v150)), some (eI (i189)), some (eI (v219))]) (s2 := [eR a0]) rfl (s_an rfl (pos_g I193 gA0 (by decide))) rfl ?_
                                    refine w_t (np := 221) (l2 := [some (eR a0), some (eI (a1)), some (eI (a2)), some (eI (a3)), some (eI (v66)), some (eI (i120)), some (eI (v150)), some (eI (i189)), some (eI (v219))]) (s2 := [eI (v219), eR a0]) rfl rfl rfl ?_
                                    refine w_t (np := 222) (l2 := [some (eR a0), some (eI (a1)), some (eI (a2)), some (eI (a3)), some (eI (v66)), some (eI (i120)), some (eI (v150)), some (eI (i189)), some (eI (v219))]) (s2 := [eI (0), eI (v219), eR a0]) rfl rfl rfl ?_
                                    refine w_cw (np := 225) (as := [eI (v219), eI (0)]) (l2 := [some (eR a0), some (eI (v219)), some (eI (0))]) (rest := []) rfl rfl rfl (Nat.ble_eq.mp rfl) rfl rfl rfl (I193.kd gA0 (by decide) (n := 69) rfl) rfl ?_
                                    refine s_284h (a1 := v219) (a2 := 0) I193 gA0 (by omega) (by decide) h196 k198 p213 p214 (by omega) (by omega) (by omega) ?_
                                    intro m232 v235 v237 I233 F234 e236 e238 h239 h240 p241 p242 h243
                                    have F244 : Fr l_289 0 0 g μ m232 := F194.t F234 rfl
                                    have p245 : LG g m232 := LG.fr p210 F234 rfl
                                    have p246 : MT g m232 := MT.fr p211 F234 rfl
                                    have p247 : LB g m232 := LB.fr p212 F234 rfl
                                    have b248 : 0 ≤ v235 ∧ v235 ≤ 890 := by
                                      rw [← e236]
                                      exact I233.int gA0 (by decide) (n := 69) rfl (by decide) rfl
                                    have b249 : 0 ≤ v237 ∧ v237 ≤ 890 := by
                                      rw [← e238]
                                      exact I233.int gA0 (by decide) (n := 69) rfl (by decide) rfl
                                    show ex_q (dt_fg L ρ) rc (d + 4, (289, 225, [some (eR a0), some (eI (a1)), some (eI (a2)), some (eI (a3)), some (eI (v66)), some (eI (i120)), some (eI (v150)), some (eI (i189)), some (eI (v219))], []), f :: F, m232)
                                    obtain ⟨v250, e251⟩ : ∃ zz : Int, zz = (i189) + (1) := ⟨_, rfl⟩
                                    have b252 : 1 ≤ v250 ∧ v250 ≤ 1 := by omega
                                    refine w_t (np := 228) (l2 := [some (eR a0), some (eI (a1)), some (eI (a2)), some (eI (a3)), some (eI (v66)), some (eI (i120)), some (eI (v150)), some (eI (v250)), some (eI (v219))]) (s2 := []) rfl (b_iinc rfl (by rw [← e251]; exact ev_w_in (by omega) (by omega)) rfl) rfl ?_
                                    refine w_go (t1 := 152) rfl rfl ?_
                                    exact ih188 (2 - (v250)).toNat (by omega) m232 (v250) (some (eI (v219))) (v235) I233 F244 (by omega) ((e238).trans (show v237 = v174 by omega)) (F234.k k199 gA0 (by decide) rfl) (F234.kr k200 b18 (by decide) rfl rfl) (F234.k k201 gA0 (by decide) rfl) (F234.k k202 gA0 (by decide) rfl) (F234.k k203 gA0 (by decide) rfl) (F234.kr k204 b42 (by decide) rfl rfl) (F234.kr k205 b42 (by decide) rfl rfl) (F234.k k206 gA0 (by decide) rfl) (F234.k k207 gA0 (by decide) rfl) (F234.k k208 gA0 (by decide) rfl) (F234.kr k209 b18 (by decide) rfl rfl) e236 (by omega) p245 p246 p247 p241 p242 (by omega) rfl
                        exact hL152 _ m169 (0) (o124) (v172) I170 F181 (by decide) e175 (F171.k k132 gA0 (by decide) rfl) (F171.kr k133 b18 (by decide) rfl rfl) (F171.k k134 gA0 (by decide) rfl) (F171.k k135 gA0 (by decide) rfl) (F171.k k136 gA0 (by decide) rfl) (F171.kr k137 b42 (by decide) rfl rfl) (F171.kr k138 b42 (by decide) rfl rfl) (F171.k e147 gA0 (by decide) rfl) (F171.k e154 gA0 (by decide) rfl) (F171.k e158 gA0 (by decide) rfl) (F171.kr e166 b18 (by decide) rfl rfl) e173 (by omega) p182 p183 p184 p178 p179 (by omega) rfl
                    exact hL119 _ m100 (0) (none) (none) (none) (v103) I101 F112 (by decide) e106 (F102.k (W93.slot k79 (by decide)) gA0 (by decide) rfl) (F102.kr (W93.addr k80 gA0 b18 (by decide)) b18 (by decide) rfl rfl) (F102.k (W93.slot k81 (by decide)) gA0 (by decide) rfl) (F102.k (W93.slot k82 (by decide)) gA0 (by decide) rfl) (F102.k (W93.slot k83 (by decide)) gA0 (by decide) rfl) (F102.kr (W93.addr k84 gA0 b42 (by decide)) b42 (by decide) rfl rfl) (F102.kr (W93.addr k85 gA0 b42 (by decide)) b42 (by decide) rfl rfl) e104 (by omega) p113 p114 p115 p109 p110  rfl
                  · have b91 : 0 ≤ i73 ∧ i73 ≤ 889 := by omega
                    have b92 : 1 ≤ v7 ∧ v7 ≤ 890 := by omega
                    refine w_t (np := 92) (l2 := [some (eR a0), some (eI (a1)), some (eI (a2)), some (eI (a3)), some (eI (v66)), some (eI (i73)), none, none, none]) (s2 := [eR a0]) rfl (s_an rfl (pos_g I76 gA0 (by decide))) rfl ?_
                    refine j_gr (np := 95) rfl rfl I76 gA0 (by decide) (n := 69) rfl rfl rfl ?_
                    intro v91 e92 b93 z94
                    have b93 : g v91 = 76 := Nat.eq_of_beq_eq_true b93
                    refine w_t (np := 97) (l2 := [some (eR a0), some (eI (a1)), some (eI (a2)), some (eI (a3)), some (eI (v66)), some (eI (i73)), none, none, none]) (s2 := [eI (i73), eR v91]) rfl rfl rfl ?_
                    refine w_t (np := 98) (l2 := [some (eR a0), some (eI (a1)), some (eI (a2)), some (eI (a3)), some (eI (v66)), some (eI (i73)), none, none, none]) (s2 := [eI (-1), eI (i73), eR v91]) rfl rfl rfl ?_
                    refine j_as (np := 99) rfl rfl I76 b93 (by decide) (n := 890) rfl rfl (lo := -1) (hi := 890) (fun _ => rfl) (by omega) (by omega) (by decide) ?_
                    intro m95 I96 W97
                    have F98 : Fr l_289 0 0 g μ m95 := F77.v W97 b93 rfl rfl
                    have p99 : LG g m95 := LG.fr p86 (Fr.o W97 b93 rfl) rfl
                    have p100 : MT g m95 := MT.fr p87 (Fr.o W97 b93 rfl) rfl
                    have p101 : LB g m95 := LB.fr p88 (Fr.o W97 b93 rfl) rfl
                    obtain ⟨v102, e103⟩ : ∃ zz : Int, zz = (i73) + (1) := ⟨_, rfl⟩
                    have b104 : 1 ≤ v102 ∧ v102 ≤ 890 := by omega
                    refine w_t (np := 102) (l2 := [some (eR a0), some (eI (a1)), some (eI (a2)), some (eI (a3)), some (eI (v66)), some (eI (v102)), none, none, none]) (s2 := []) rfl (b_iinc rfl (by rw [← e103]; exact ev_w_in (by omega) (by omega)) rfl) rfl ?_
                    refine w_go (t1 := 82) rfl rfl ?_
                    exact ih72 (890 - (v102)).toNat (by omega) m95 (v102) I96 F98 (by omega) (W97.addr k78 b93 gA0 (by decide)) (W97.addr k79 b93 gA0 (by decide)) (W97.addr k80 b93 b18 (by decide)) (W97.addr k81 b93 gA0 (by decide)) (W97.addr k82 b93 gA0 (by decide)) (W97.addr k83 b93 gA0 (by decide)) (W97.addr k84 b93 b42 (by decide)) (W97.addr k85 b93 b42 (by decide))  p99 p100 p101  rfl
                exact hL82 _ m31 (0) I32 F34 (by decide) (W33.slot (W26.slot e8 (by decide)) (by decide)) (W33.slot (W26.slot e17 (by decide)) (by decide)) (W33.addr (W26.addr e21 gA0 b18 (by decide)) gA0 b18 (by decide)) (W33.slot W26.at (by decide)) W33.at e41 e48 e60  p35 p36 p37  rfl
              · have b24 : -1 ≤ v20 ∧ v20 ≤ -1 := by omega
                refine w_t (np := 45) (l2 := [some (eR a0), some (eI (a1)), some (eI (a2)), some (eI (a3)), none, none, none, none, none]) (s2 := [eI (5), eR a0]) rfl rfl rfl ?_
                refine w_go (t1 := 49) rfl rfl ?_
                refine w_cw (np := 52) (as := [eI (5)]) (l2 := [some (eR a0), some (eI (5))]) (rest := []) rfl rfl rfl (Nat.ble_eq.mp rfl) rfl rfl rfl (hI.kd gA0 (by decide) (n := 69) rfl) rfl ?_
                refine w_t (np := 1) (l2 := [some (eR a0), some (eI (5))]) (s2 := [eR a0]) rfl (s_an rfl (pos_g hI gA0 (by decide))) rfl ?_
                refine w_t (np := 2) (l2 := [some (eR a0), some (eI (5))]) (s2 := [eI (0), eR a0]) rfl rfl rfl ?_
                refine j_pf (np := 5) (w := 0) rfl rfl hI gA0 (by decide) (n := 69) rfl rfl (hO_i (lo := -2147483648) (hi := 2147483647) rfl (by decide)) ?_
                intro m24 I25 W26
                have F27 : Fr l_289 0 0 g μ m24 := F0.w W26 gA0 rfl
                have p28 : LG g m24 := LG.fr h_LG (Fr.f W26 gA0) rfl
                have p29 : MT g m24 := MT.fr h_MT (Fr.f W26 gA0) rfl
                have p30 : LB g m24 := LB.fr h_LB (Fr.f W26 gA0) rfl
                refine w_t (np := 6) (l2 := [some (eR a0), some (eI (5))]) (s2 := [eR a0]) rfl (s_an rfl (pos_g I25 gA0 (by decide))) rfl ?_
                refine w_t (np := 7) (l2 := [some (eR a0), some (eI (5))]) (s2 := [eI (5), eR a0]) rfl rfl rfl ?_
                refine j_pf (np := 10) (w := 5) rfl rfl I25 gA0 (by decide) (n := 69) rfl rfl (hO_i (lo := -2147483648) (hi := 2147483647) rfl (by decide)) ?_
                intro m31 I32 W33
                have F34 : Fr l_289 0 0 g μ m31 := F27.w W33 gA0 rfl
                have p35 : LG g m31 := LG.fr p28 (Fr.f W33 gA0) rfl
                have p36 : MT g m31 := MT.fr p29 (Fr.f W33 gA0) rfl
                have p37 : LB g m31 := LB.fr p30 (Fr.f W33 gA0) rfl
                refine w_t (np := 11) (l2 := [some (eR a0), some (eI (5))]) (s2 := [eI (5)]) rfl rfl rfl ?_
                refine b_ine (t1 := 18) (t2 := 14) rfl rfl rfl rfl (fun g38 => ?_) (fun g38 => absurd g38 (by decide))
                refine w_t (np := 19) (l2 := [some (eR a0), some (eI (5))]) (s2 := [eI (0)]) rfl rfl rfl ?_
                refine b_rz rfl rfl (Or.inl rfl) ?_
                show ex_q (dt_fg L ρ) rc (d + 4, (289, 52, [some (eR a0), some (eI (a1)), some (eI (a2)), some (eI (a3)), none, none, none, none, none], [eI (0)]), f :: F, m31)
                refine b_ine (t1 := 57) (t2 := 55) rfl rfl rfl rfl (fun g39 => absurd g39 (by decide)) (fun g39 => ?_)
                refine w_t (np := 56) (l2 := [some (eR a0), some (eI (a1)), some (eI (a2)), some (eI (a3)), none, none, none, none, none]) (s2 := [eI (-1)]) rfl rfl rfl ?_
                exact b_ri rfl rfl (K m31 (-1) I32 F34 (by decide))
