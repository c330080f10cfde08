/-! methods, walked -/
def l_346 : List Nat := [13370, 13371]
theorem s_346 {L : Nat} {ρ : Nat → Int} {rc : eQ} {d : Nat} {f : eFr} {F : List eFr} {μ : eM} {g : Nat → Nat} {a0 : Nat} {a1 : Int} {a2 : Int} {wr : Int} (hI : SI g μ) (gA0 : g a0 = 52) (bA1 : 0 ≤ a1 ∧ a1 ≤ 1) (bA2 : 2 ≤ a2 ∧ a2 ≤ 4) (h_wr : μ.1 a0 57 = wr) (K : ∀ (μ2 : eM) (wr2 : Int), SI g μ2 → Fr l_346 0 0 g μ μ2 → μ2.1 a0 57 = wr2 → (wr2 ≠ 0 ∨ (a1 = 1 ∧ wr = 0)) → ex_q (dt_fg L ρ) rc (d + 1, (f.1, f.2.1, f.2.2.1, f.2.2.2), F, μ2)) : ex_q (dt_fg L ρ) rc (d, (346, 0, [some (eR a0), some (eI (a1)), some (eI (a2))], []), f :: F, μ) := by
  have F0 : Fr l_346 0 0 g μ μ := Fr.r
  have b_wr : 0 ≤ wr ∧ wr ≤ 8 := by
    rw [← h_wr]
    exact hI.int gA0 (by decide) (n := 69) rfl (by decide) rfl
  refine w_t (np := 1) (l2 := [some (eR a0), some (eI (a1)), some (eI (a2))]) (s2 := [eI (a1)]) rfl rfl rfl ?_
  refine b_ine (t1 := 11) (t2 := 4) rfl rfl rfl (ev_w_in (by omega) (by omega)) (fun g1 => ?_) (fun g1 => ?_)
  · have b2 : 1 ≤ a1 ∧ a1 ≤ 1 := by omega
    exact v_rv rfl rfl (K μ (wr) hI F0 h_wr (by omega))
  · have b2 : 0 ≤ a1 ∧ a1 ≤ 0 := by omega
    refine w_t (np := 5) (l2 := [some (eR a0), some (eI (a1)), some (eI (a2))]) (s2 := [eR a0]) rfl (s_an rfl (pos_g hI gA0 (by decide))) rfl ?_
    refine w_gf (np := 8) (v := eI (wr)) rfl rfl (hI.kd gA0 (by decide) (n := 69) rfl) (by rw [h_wr]; rfl) ?_
    refine b_ile (t1 := 12) (t2 := 11) rfl rfl rfl (ev_w_in (by omega) (by omega)) (fun g2 => ?_) (fun g2 => ?_)
    · have b3 : 0 ≤ wr ∧ wr ≤ 0 := by omega
      refine w_t (np := 13) (l2 := [some (eR a0), some (eI (a1)), some (eI (a2))]) (s2 := [eR a0]) rfl (s_an rfl (pos_g hI gA0 (by decide))) rfl ?_
      refine w_t (np := 14) (l2 := [some (eR a0), some (eI (a1)), some (eI (a2))]) (s2 := [eI (a2), eR a0]) rfl rfl rfl ?_
      refine w_t (np := 15) (l2 := [some (eR a0), some (eI (a1)), some (eI (a2))]) (s2 := [eI (2), eI (a2), eR a0]) rfl rfl rfl ?_
      refine b_cne (t1 := 30) (t2 := 18) rfl rfl rfl (ev_w_in (by omega) (by omega)) rfl (fun g3 => ?_) (fun g3 => ?_)
      · have b4 : 3 ≤ a2 ∧ a2 ≤ 4 := by omega
        refine w_t (np := 31) (l2 := [some (eR a0), some (eI (a1)), some (eI (a2))]) (s2 := [eI (a2), eR a0]) rfl rfl rfl ?_
        refine j_pf (np := 34) (w := a2) rfl rfl hI gA0 (by decide) (n := 69) rfl rfl (hO_i (lo := 0) (hi := 8) rfl (by omega)) ?_
        intro m4 I5 W6
        have F7 : Fr l_346 0 0 g μ m4 := F0.w W6 gA0 rfl
        refine w_t (np := 35) (l2 := [some (eR a0), some (eI (a1)), some (eI (a2))]) (s2 := [eR a0]) rfl (s_an rfl (pos_g I5 gA0 (by decide))) rfl ?_
        refine w_t (np := 36) (l2 := [some (eR a0), some (eI (a1)), some (eI (a2))]) (s2 := [eR a0, eR a0]) rfl (s_an rfl (pos_g I5 gA0 (by decide))) rfl ?_
        refine j_gi (np := 39) rfl rfl rfl I5 gA0 (by decide) (n := 69) rfl rfl (lo := 0) (hi := 902) rfl ?_
        intro v8 e9 b10
        refine j_pf (np := 42) (w := v8) rfl rfl I5 gA0 (by decide) (n := 69) rfl rfl (hO_i (lo := -2147483648) (hi := 2147483647) rfl (by omega)) ?_
        intro m11 I12 W13
        have F14 : Fr l_346 0 0 g μ m11 := F7.w W13 gA0 rfl
        exact v_rv rfl rfl (K m11 (a2) I12 F14 (W13.slot W6.at (by decide)) (by omega))
      · have b4 : 2 ≤ a2 ∧ a2 ≤ 2 := by omega
        refine w_t (np := 19) (l2 := [some (eR a0), some (eI (a1)), some (eI (a2))]) (s2 := [eR a0, eR a0]) rfl (s_an rfl (pos_g hI gA0 (by decide))) rfl ?_
        refine j_gi (np := 22) rfl rfl rfl hI gA0 (by decide) (n := 69) rfl rfl (lo := -2147483648) (hi := 2147483647) rfl ?_
        intro v4 e5 b6
        refine w_t (np := 23) (l2 := [some (eR a0), some (eI (a1)), some (eI (a2))]) (s2 := [eI (4), eI (v4), eR a0]) rfl rfl rfl ?_
        refine b_cne (t1 := 30) (t2 := 26) rfl rfl rfl (ev_w_in (by omega) (by omega)) rfl (fun g7 => ?_) (fun g7 => ?_)
        · refine w_t (np := 31) (l2 := [some (eR a0), some (eI (a1)), some (eI (a2))]) (s2 := [eI (a2), eR a0]) rfl rfl rfl ?_
          refine j_pf (np := 34) (w := a2) rfl rfl hI gA0 (by decide) (n := 69) rfl rfl (hO_i (lo := 0) (hi := 8) rfl (by omega)) ?_
          intro m8 I9 W10
          have F11 : Fr l_346 0 0 g μ m8 := F0.w W10 gA0 rfl
          refine w_t (np := 35) (l2 := [some (eR a0), some (eI (a1)), some (eI (a2))]) (s2 := [eR a0]) rfl (s_an rfl (pos_g I9 gA0 (by decide))) rfl ?_
          refine w_t (np := 36) (l2 := [some (eR a0), some (eI (a1)), some (eI (a2))]) (s2 := [eR a0, eR a0]) rfl (s_an rfl (pos_g I9 gA0 (by decide))) rfl ?_
          refine j_gi (np := 39) rfl rfl rfl I9 gA0 (by decide) (n := 69) rfl rfl (lo := 0) (hi := 902) rfl ?_
          intro v12 e13 b14
          refine j_pf (np := 42) (w := v12) rfl rfl I9 gA0 (by decide) (n := 69) rfl rfl (hO_i (lo := -2147483648) (hi := 2147483647) rfl (by omega)) ?_
          intro m15 I16 W17
          have F18 : Fr l_346 0 0 g μ m15 := F11.w W17 gA0 rfl
          exact v_rv rfl rfl (K m15 (a2) I16 F18 (W17.slot W10.at (by decide)) (by omega))
        · have b8 : 4 ≤ v4 ∧ v4 ≤ 4 := by omega
          refine w_t (np := 27) (l2 := [some (eR a0), some (eI (a1)), some (eI (a2))]) (s2 := [eI (1), eR a0]) rfl rfl rfl ?_
          refine w_go (t1 := 31) rfl rfl ?_
          refine j_pf (np := 34) (w := 1) rfl rfl hI gA0 (by decide) (n := 69) rfl rfl (hO_i (lo := 0) (hi := 8) rfl (by decide)) ?_
          intro m8 I9 W10
          have F11 : Fr l_346 0 0 g μ m8 := F0.w W10 gA0 rfl
          refine w_t (np := 35) (l2 := [some (eR a0), some (eI (a1)), some (eI (a2))]) (s2 := [eR a0]) rfl (s_an rfl (pos_g I9 gA0 (by decide))) rfl ?_
          refine w_t (np := 36) (l2 := [some (eR a0), some (eI (a1)), some (eI (a2))]) (s2 := [eR a0, eR a0]) rfl (s_an rfl (pos_g I9 gA0 (by decide))) rfl ?_
          refine j_gi (np := 39) rfl rfl rfl I9 gA0 (by decide) (n := 69) rfl rfl (lo := 0) (hi := 902) rfl ?_
          intro v12 e13 b14
          refine j_pf (np := 42) (w := v12) rfl rfl I9 gA0 (by decide) (n := 69) rfl rfl (hO_i (lo := -2147483648) (hi := 2147483647) rfl (by omega)) ?_
          intro m15 I16 W17
          have F18 : Fr l_346 0 0 g μ m15 := F11.w W17 gA0 rfl
          exact v_rv rfl rfl (K m15 (1) I16 F18 (W17.slot W10.at (by decide)) (by omega))
    · have b3 : 1 ≤ wr ∧ wr ≤ 8 := by omega
      exact v_rv rfl rfl (K μ (wr) hI F0 h_wr (by omega))
theorem s_347 {L : Nat} {ρ : Nat → Int} {rc : eQ} {d : Nat} {f : eFr} {F : List eFr} {μ : eM} {g : Nat → Nat} {a0 : Nat} {a1 : Int} {wr : Int} {so : Int} (hI : SI g μ) (gA0 : g a0 = 52) (bA1 : 0 ≤ a1 ∧ a1 ≤ 3) (h_wr : μ.1 a0 57 = wr) (h_so : μ.1 a0 61 = so) (K : ∀ (v : Int), (0 ≤ v ∧ v ≤ 1) → (v = 0 ∨ (wr = 0 ∧ so = 1)) → ex_q (dt_fg L ρ) rc (d + 1, (f.1, f.2.1, f.2.2.1, eI v :: f.2.2.2), F, μ)) : ex_q (dt_fg L ρ) rc (d, (347, 0, [some (eR a0), some (eI (a1))], []), f :: F, μ) := by
  have b_wr : 0 ≤ wr ∧ wr ≤ 8 := by
    rw [← h_wr]
    exact hI.int gA0 (by decide) (n := 69) rfl (by decide) rfl
  have b_so : -2147483648 ≤ so ∧ so ≤ 2147483647 := by
    rw [← h_so]
    exact hI.int gA0 (by decide) (n := 69) rfl (by decide) rfl
  refine w_t (np := 1) (l2 := [some (eR a0), some (eI (a1))]) (s2 := [eR a0]) rfl (s_an rfl (pos_g hI gA0 (by decide))) rfl ?_
  refine w_gf (np := 4) (v := eI (wr)) rfl rfl (hI.kd gA0 (by decide) (n := 69) rfl) (by rw [h_wr]; rfl) ?_
  refine b_ine (t1 := 33) (t2 := 7) rfl rfl rfl (ev_w_in (by omega) (by omega)) (fun g1 => ?_) (fun g1 => ?_)
  · have b2 : 1 ≤ wr ∧ wr ≤ 8 := by omega
    refine w_t (np := 34) (l2 := [some (eR a0), some (eI (a1))]) (s2 := [eI (0)]) rfl rfl rfl ?_
    exact b_rz rfl rfl (Or.inl rfl) (K (0) (by decide) (by omega))
  · have b2 : 0 ≤ wr ∧ wr ≤ 0 := by omega
    refine w_t (np := 8) (l2 := [some (eR a0), some (eI (a1))]) (s2 := [eR a0]) rfl (s_an rfl (pos_g hI gA0 (by decide))) rfl ?_
    refine w_gf (np := 11) (v := eI (so)) rfl rfl (hI.kd gA0 (by decide) (n := 69) rfl) (by rw [h_so]; rfl) ?_
    refine w_t (np := 12) (l2 := [some (eR a0), some (eI (a1))]) (s2 := [eI (1), eI (so)]) rfl rfl rfl ?_
    refine b_cne (t1 := 33) (t2 := 15) rfl rfl rfl (ev_w_in (by omega) (by omega)) rfl (fun g2 => ?_) (fun g2 => ?_)
    · refine w_t (np := 34) (l2 := [some (eR a0), some (eI (a1))]) (s2 := [eI (0)]) rfl rfl rfl ?_
      exact b_rz rfl rfl (Or.inl rfl) (K (0) (by decide) (by omega))
    · have b3 : 1 ≤ so ∧ so ≤ 1 := by omega
      refine w_t (np := 16) (l2 := [some (eR a0), some (eI (a1))]) (s2 := [eR a0]) rfl (s_an rfl (pos_g hI gA0 (by decide))) rfl ?_
      refine j_gj (np := 19) rfl rfl hI gA0 (by decide) (n := 69) rfl rfl (lo := -9223372036854775808) (hi := 9223372036854775807) rfl ?_
      intro v3 e4 b5
      refine w_t (np := 20) (l2 := [some (eR a0), some (eI (a1))]) (s2 := [eR a0, eJ (v3)]) rfl (s_an rfl (pos_g hI gA0 (by decide))) rfl ?_
      refine j_gr (np := 23) rfl rfl hI gA0 (by decide) (n := 69) rfl rfl rfl ?_
      intro v6 e7 b8 z9
      have b8 : g v6 = 88 := Nat.eq_of_beq_eq_true b8
      refine w_t (np := 24) (l2 := [some (eR a0), some (eI (a1))]) (s2 := [eI (a1), eR v6, eJ (v3)]) rfl rfl rfl ?_
      refine j_ll (np := 25) rfl rfl hI b8 (by decide) (n := 4) rfl rfl (lo := -9223372036854775808) (hi := 9223372036854775807) (fun _ => rfl) (by omega) (by omega) ?_
      intro v10 e11 b12
      obtain ⟨v13, e14, b15⟩ := h_lcmp (v3) (v10)
      refine w_t (np := 26) (l2 := [some (eR a0), some (eI (a1))]) (s2 := [eI (v13)]) rfl (e14 _ _) rfl ?_
      refine b_ine (t1 := 33) (t2 := 29) rfl rfl rfl (ev_w_in (by omega) (by omega)) (fun g16 => ?_) (fun g16 => ?_)
      · refine w_t (np := 34) (l2 := [some (eR a0), some (eI (a1))]) (s2 := [eI (0)]) rfl rfl rfl ?_
        exact b_rz rfl rfl (Or.inl rfl) (K (0) (by decide) (by omega))
      · have b17 : 0 ≤ v13 ∧ v13 ≤ 0 := by omega
        refine w_t (np := 30) (l2 := [some (eR a0), some (eI (a1))]) (s2 := [eI (1)]) rfl rfl rfl ?_
        refine w_go (t1 := 34) rfl rfl ?_
        exact b_rz rfl rfl (Or.inr rfl) (K (1) (by decide) (by omega))
theorem s_348 {L : Nat} {ρ : Nat → Int} {rc : eQ} {d : Nat} {f : eFr} {F : List eFr} {μ : eM} {g : Nat → Nat} {a0 : Nat} {a1 : Int} {wr : Int} {so : Int} {pl : Int} (hI : SI g μ) (gA0 : g a0 = 52) (bA1 : -2147483648 ≤ a1 ∧ a1 ≤ 2147483647) (h_wr : μ.1 a0 57 = wr) (h_so : μ.1 a0 61 = so) (h_pl : μ.1 a0 59 = pl) (hp0 : so ≠ 3 ∨ pl ≤ 899) (K : ∀ (v : Int), (0 ≤ v ∧ v ≤ 1) → (v = 0 ∨ (wr = 0 ∧ so = 3)) → ex_q (dt_fg L ρ) rc (d + 1, (f.1, f.2.1, f.2.2.1, eI v :: f.2.2.2), F, μ)) : ex_q (dt_fg L ρ) rc (d, (348, 0, [some (eR a0), some (eI (a1))], []), f :: F, μ) := by
  have b_wr : 0 ≤ wr ∧ wr ≤ 8 := by
    rw [← h_wr]
    exact hI.int gA0 (by decide) (n := 69) rfl (by decide) rfl
  have b_so : -2147483648 ≤ so ∧ so ≤ 2147483647 := by
    rw [← h_so]
    exact hI.int gA0 (by decide) (n := 69) rfl (by decide) rfl
  have b_pl : 0 ≤ pl ∧ pl ≤ 902 := by
    rw [← h_pl]
    exact hI.int gA0 (by decide) (n := 69) rfl (by decide) rfl
  refine w_t (np := 1) (l2 := [some (eR a0), some (eI (a1))]) (s2 := [eR a0]) rfl (s_an rfl (pos_g hI gA0 (by decide))) rfl ?_
  refine w_gf (np := 4) (v := eI (wr)) rfl rfl (hI.kd gA0 (by decide) (n := 69) rfl) (by rw [h_wr]; rfl) ?_
  refine b_ine (t1 := 32) (t2 := 7) rfl rfl rfl (ev_w_in (by omega) (by omega)) (fun g1 => ?_) (fun g1 => ?_)
  · have b2 : 1 ≤ wr ∧ wr ≤ 8 := by omega
    refine w_t (np := 33) (l2 := [some (eR a0), some (eI (a1))]) (s2 := [eI (0)]) rfl rfl rfl ?_
    exact b_rz rfl rfl (Or.inl rfl) (K (0) (by decide) (by omega))
  · have b2 : 0 ≤ wr ∧ wr ≤ 0 := by omega
    refine w_t (np := 8) (l2 := [some (eR a0), some (eI (a1))]) (s2 := [eR a0]) rfl (s_an rfl (pos_g hI gA0 (by decide))) rfl ?_
    refine w_gf (np := 11) (v := eI (so)) rfl rfl (hI.kd gA0 (by decide) (n := 69) rfl) (by rw [h_so]; rfl) ?_
    refine w_t (np := 12) (l2 := [some (eR a0), some (eI (a1))]) (s2 := [eI (3), eI (so)]) rfl rfl rfl ?_
    refine b_cne (t1 := 32) (t2 := 15) rfl rfl rfl (ev_w_in (by omega) (by omega)) rfl (fun g2 => ?_) (fun g2 => ?_)
    · refine w_t (np := 33) (l2 := [some (eR a0), some (eI (a1))]) (s2 := [eI (0)]) rfl rfl rfl ?_
      exact b_rz rfl rfl (Or.inl rfl) (K (0) (by decide) (by omega))
    · have b3 : 3 ≤ so ∧ so ≤ 3 := by omega
      refine w_t (np := 16) (l2 := [some (eR a0), some (eI (a1))]) (s2 := [eR a0]) rfl (s_an rfl (pos_g hI gA0 (by decide))) rfl ?_
      refine j_gr (np := 19) rfl rfl hI gA0 (by decide) (n := 69) rfl rfl rfl ?_
      intro v3 e4 b5 z6
      have b5 : g v3 = 87 := Nat.eq_of_beq_eq_true b5
      refine w_t (np := 20) (l2 := [some (eR a0), some (eI (a1))]) (s2 := [eR a0, eR v3]) rfl (s_an rfl (pos_g hI gA0 (by decide))) rfl ?_
      refine w_gf (np := 23) (v := eI (pl)) rfl rfl (hI.kd gA0 (by decide) (n := 69) rfl) (by rw [h_pl]; rfl) ?_
      refine j_b2 (np := 24) rfl rfl hI b5 (by decide) (n := 900) rfl rfl (lo := -128) (hi := 127) (fun _ => rfl) (by omega) (by omega) ?_
      intro v7 e8 b9
      refine w_t (np := 25) (l2 := [some (eR a0), some (eI (a1))]) (s2 := [eI (a1), eI (v7)]) rfl rfl rfl ?_
      refine b_cne (t1 := 32) (t2 := 28) rfl rfl rfl (ev_w_in (by omega) (by omega)) (ev_w_in (by omega) (by omega)) (fun g10 => ?_) (fun g10 => ?_)
      · refine w_t (np := 33) (l2 := [some (eR a0), some (eI (a1))]) (s2 := [eI (0)]) rfl rfl rfl ?_
        exact b_rz rfl rfl (Or.inl rfl) (K (0) (by decide) (by omega))
      · have b11 : -128 ≤ a1 ∧ a1 ≤ 127 := by omega
        refine w_t (np := 29) (l2 := [some (eR a0), some (eI (a1))]) (s2 := [eI (1)]) rfl rfl rfl ?_
        refine w_go (t1 := 33) rfl rfl ?_
        exact b_rz rfl rfl (Or.inr rfl) (K (1) (by decide) (by omega))
def l_349 : List Nat := [13370, 13371, 13372, 13373, 13374, 13375, 13378]
theorem s_349 {L : Nat} {ρ : Nat → Int} {rc : eQ} {d : Nat} {f : eFr} {F : List eFr} {μ : eM} {g : Nat → Nat} {a0 : Nat} {a1 : Int} {wr : Int} {so : Int} {pl : Int} {th : Int} (hI : SI g μ) (gA0 : g a0 = 52) (bA1 : 0 ≤ a1 ∧ a1 ≤ 1) (h_wr : μ.1 a0 57 = wr) (h_so : μ.1 a0 61 = so) (h_pl : μ.1 a0 59 = pl) (h_th : μ.1 a0 60 = th) (hp0 : so = 0 ∨ so = 4 ∨ th ≤ 900) (hp1 : so ≠ 3 ∨ pl ≤ 899) (hp2 : a1 = 0 ∨ (so ≠ 0 ∧ so ≠ 4)) (K : ∀ (μ2 : eM) (wr2 : Int) (so2 : Int) (pl2 : Int) (th2 : Int), SI g μ2 → Fr l_349 0 0 g μ μ2 → μ2.1 a0 57 = wr2 → μ2.1 a0 61 = so2 → μ2.1 a0 59 = pl2 → μ2.1 a0 60 = th2 → (so2 = 0 ∨ so2 = 4 ∨ th2 ≤ 900) → (so2 ≠ 3 ∨ pl2 ≤ 899) → ex_q (dt_fg L ρ) rc (d + 4, (f.1, f.2.1, f.2.2.1, f.2.2.2), F, μ2)) : ex_q (dt_fg L ρ) rc (d + 3, (349, 0, [some (eR a0), some (eI (a1))], []), f :: F, μ) := by
  have F0 : Fr l_349 0 0 g μ μ := Fr.r
  have b_wr : 0 ≤ wr ∧ wr ≤ 8 := by
    rw [← h_wr]
    exact hI.int gA0 (by decide) (n := 69) rfl (by decide) rfl
  have b_so : -2147483648 ≤ so ∧ so ≤ 2147483647 := by
    rw [← h_so]
    exact hI.int gA0 (by decide) (n := 69) rfl (by decide) rfl
  have b_pl : 0 ≤ pl ∧ pl ≤ 902 := by
    rw [← h_pl]
    exact hI.int gA0 (by decide) (n := 69) rfl (by decide) rfl
  have b_th : 0 ≤ th ∧ th ≤ 902 := by
    rw [← h_th]
    exact hI.int gA0 (by decide) (n := 69) rfl (by decide) rfl
  refine w_t (np := 1) (l2 := [some (eR a0), some (eI (a1))]) (s2 := [eR a0]) rfl (s_an rfl (pos_g hI gA0 (by decide))) rfl ?_
  refine w_t (np := 2) (l2 := [some (eR a0), some (eI (a1))]) (s2 := [eI (a1), eR a0]) rfl rfl rfl ?_
  refine w_t (np := 3) (l2 := [some (eR a0), some (eI (a1))]) (s2 := [eI (2), eI (a1), eR a0]) rfl rfl rfl ?_
  refine w_cw (np := 6) (as := [eI (a1), eI (2)]) (l2 := [some (eR a0), some (eI (a1)), some (eI (2))]) (rest := []) rfl rfl rfl (Nat.ble_eq.mp rfl) rfl rfl rfl (hI.kd gA0 (by decide) (n := 69) rfl) rfl ?_
  refine s_346 (a1 := a1) (a2 := 2) hI gA0 (by omega) (by decide) h_wr ?_
  intro m1 v4 I2 F3 e5 h6
  have F7 : Fr l_349 0 0 g μ m1 := F0.t F3 rfl
  have b8 : 0 ≤ v4 ∧ v4 ≤ 8 := by
    rw [← e5]
    exact I2.int gA0 (by decide) (n := 69) rfl (by decide) rfl
  show ex_q (dt_fg L ρ) rc (d + 3, (349, 6, [some (eR a0), some (eI (a1))], []), f :: F, m1)
  refine w_t (np := 7) (l2 := [some (eR a0), some (eI (a1))]) (s2 := [eR a0]) rfl (s_an rfl (pos_g I2 gA0 (by decide))) rfl ?_
  refine w_gf (np := 10) (v := eI (v4)) rfl rfl (I2.kd gA0 (by decide) (n := 69) rfl) (by rw [e5]; rfl) ?_
  refine b_ine (t1 := 17) (t2 := 13) rfl rfl rfl (ev_w_in (by omega) (by omega)) (fun g9 => ?_) (fun g9 => ?_)
  · have b10 : 1 ≤ v4 ∧ v4 ≤ 8 := by omega
    exact v_rv rfl rfl (K m1 (v4) (so) (pl) (th) I2 F7 e5 (F3.k h_so gA0 (by decide) rfl) (F3.k h_pl gA0 (by decide) rfl) (F3.k h_th gA0 (by decide) rfl) (by omega) (by omega))
  · have b10 : 0 ≤ v4 ∧ v4 ≤ 0 := by omega
    refine w_t (np := 14) (l2 := [some (eR a0), some (eI (a1))]) (s2 := [eR a0]) rfl (s_an rfl (pos_g I2 gA0 (by decide))) rfl ?_
    refine w_cw (np := 17) (as := []) (l2 := [some (eR a0)]) (rest := []) rfl rfl rfl (Nat.ble_eq.mp rfl) rfl rfl rfl (I2.kd gA0 (by decide) (n := 69) rfl) rfl ?_
    refine s_345 I2 gA0 (F3.k h_so gA0 (by decide) rfl) (F3.k h_pl gA0 (by decide) rfl) (F3.k h_th gA0 (by decide) rfl) (by omega) ?_
    intro m10 v13 v15 v17 I11 F12 e14 e16 e18 h19 h20
    have F21 : Fr l_349 0 0 g μ m10 := F7.t F12 rfl
    have b22 : -2147483648 ≤ v13 ∧ v13 ≤ 2147483647 := by
      rw [← e14]
      exact I11.int gA0 (by decide) (n := 69) rfl (by decide) rfl
    have b23 : 0 ≤ v15 ∧ v15 ≤ 902 := by
      rw [← e16]
      exact I11.int gA0 (by decide) (n := 69) rfl (by decide) rfl
    have b24 : 0 ≤ v17 ∧ v17 ≤ 902 := by
      rw [← e18]
      exact I11.int gA0 (by decide) (n := 69) rfl (by decide) rfl
    clear hp0 hp1
    show ex_q (dt_fg L ρ) rc (d + 3, (349, 17, [some (eR a0), some (eI (a1))], []), f :: F, m10)
    exact v_rv rfl rfl (K m10 (v4) (v13) (v15) (v17) I11 F21 (F12.k e5 gA0 (by decide) rfl) e14 e16 e18 (by omega) (by omega))
def l_350 : List Nat := [13370, 13371, 13372, 13373, 13374, 13375, 13378]
theorem s_350 {L : Nat} {ρ : Nat → Int} {rc : eQ} {d : Nat} {f : eFr} {F : List eFr} {μ : eM} {g : Nat → Nat} {a0 : Nat} {a1 : Int} {wr : Int} {so : Int} {pl : Int} {th : Int} (hI : SI g μ) (gA0 : g a0 = 52) (bA1 : -2147483648 ≤ a1 ∧ a1 ≤ 2147483647) (h_wr : μ.1 a0 57 = wr) (h_so : μ.1 a0 61 = so) (h_pl : μ.1 a0 59 = pl) (h_th : μ.1 a0 60 = th) (hp0 : so = 0 ∨ so = 4 ∨ th ≤ 900) (hp1 : so ≠ 3 ∨ pl ≤ 899) (K : ∀ (μ2 : eM) (v : Int) (wr2 : Int) (so2 : Int) (pl2 : Int) (th2 : Int), SI g μ2 → Fr l_350 0 0 g μ μ2 → (-2147483648 ≤ v ∧ v ≤ 2147483647) → μ2.1 a0 57 = wr2 → μ2.1 a0 61 = so2 → μ2.1 a0 59 = pl2 → μ2.1 a0 60 = th2 → (so2 = 0 ∨ so2 = 4 ∨ th2 ≤ 900) → (so2 ≠ 3 ∨ pl2 ≤ 899) → ex_q (dt_fg L ρ) rc (d + 4, (f.1, f.2.1, f.2.2.1, eI v :: f.2.2.2), F, μ2)) : ex_q (dt_fg L ρ) rc (d + 3, (350, 0, [some (eR a0), some (eI (a1)), none], []), f :: F, μ) := by
  have F0 : Fr l_350 0 0 g μ μ := Fr.r
  have b_wr : 0 ≤ wr ∧ wr ≤ 8 := by
    rw [← h_wr]
    exact hI.int gA0 (by decide) (n := 69) rfl (by decide) rfl
  have b_so : -2147483648 ≤ so ∧ so ≤ 2147483647 := by
    rw [← h_so]
    exact hI.int gA0 (by decide) (n := 69) rfl (by decide) rfl
  have b_pl : 0 ≤ pl ∧ pl ≤ 902 := by
    rw [← h_pl]
    exact hI.int gA0 (by decide) (n := 69) rfl (by decide) rfl
  have b_th : 0 ≤ th ∧ th ≤ 902 := by
    rw [← h_th]
    exact hI.int gA0 (by decide) (n := 69) rfl (by decide) rfl
  refine w_t (np := 1) (l2 := [some (eR a0), some (eI (a1)), none]) (s2 := [eR a0]) rfl (s_an rfl (pos_g hI gA0 (by decide))) rfl ?_
  refine w_t (np := 2) (l2 := [some (eR a0), some (eI (a1)), none]) (s2 := [eR a0, eR a0]) rfl (s_an rfl (pos_g hI gA0 (by decide))) rfl ?_
  refine w_gf (np := 5) (v := eI (so)) rfl rfl (hI.kd gA0 (by decide) (n := 69) rfl) (by rw [h_so]; rfl) ?_
  refine w_t (np := 6) (l2 := [some (eR a0), some (eI (a1)), none]) (s2 := [eI (2), eI (so), eR a0]) rfl rfl rfl ?_
  refine b_cne (t1 := 13) (t2 := 9) rfl rfl rfl (ev_w_in (by omega) (by omega)) rfl (fun g1 => ?_) (fun g1 => ?_)
  · refine w_t (np := 14) (l2 := [some (eR a0), some (eI (a1)), none]) (s2 := [eI (0), eR a0]) rfl rfl rfl ?_
    refine w_t (np := 15) (l2 := [some (eR a0), some (eI (a1)), none]) (s2 := [eI (2), eI (0), eR a0]) rfl rfl rfl ?_
    refine w_cw (np := 18) (as := [eI (0), eI (2)]) (l2 := [some (eR a0), some (eI (0)), some (eI (2))]) (rest := []) rfl rfl rfl (Nat.ble_eq.mp rfl) rfl rfl rfl (hI.kd gA0 (by decide) (n := 69) rfl) rfl ?_
    refine s_346 (a1 := 0) (a2 := 2) hI gA0 (by decide) (by decide) h_wr ?_
    intro m2 v5 I3 F4 e6 h7
    have F8 : Fr l_350 0 0 g μ m2 := F0.t F4 rfl
    have b9 : 0 ≤ v5 ∧ v5 ≤ 8 := by
      rw [← e6]
      exact I3.int gA0 (by decide) (n := 69) rfl (by decide) rfl
    show ex_q (dt_fg L ρ) rc (d + 3, (350, 18, [some (eR a0), some (eI (a1)), none], []), f :: F, m2)
    refine w_t (np := 19) (l2 := [some (eR a0), some (eI (a1)), none]) (s2 := [eR a0]) rfl (s_an rfl (pos_g I3 gA0 (by decide))) rfl ?_
    refine w_t (np := 20) (l2 := [some (eR a0), some (eI (a1)), none]) (s2 := [eR a0, eR a0]) rfl (s_an rfl (pos_g I3 gA0 (by decide))) rfl ?_
    refine j_gi (np := 23) rfl rfl rfl I3 gA0 (by decide) (n := 69) rfl rfl (lo := -2147483648) (hi := 2147483647) rfl ?_
    intro v10 e11 b12
    refine w_t (np := 24) (l2 := [some (eR a0), some (eI (a1)), none]) (s2 := [eI (a1), eI (v10), eR a0]) rfl rfl rfl ?_
    refine b_cgt (t1 := 31) (t2 := 27) rfl rfl rfl (ev_w_in (by omega) (by omega)) (ev_w_in (by omega) (by omega)) (fun g13 => ?_) (fun g13 => ?_)
    · have b14 : -2147483647 ≤ v10 ∧ v10 ≤ 2147483647 := by omega
      have b15 : -2147483648 ≤ a1 ∧ a1 ≤ 2147483646 := by omega
      refine w_t (np := 32) (l2 := [some (eR a0), some (eI (a1)), none]) (s2 := [eI (0), eR a0]) rfl rfl rfl ?_
      refine w_t (np := 33) (l2 := [some (eR a0), some (eI (a1)), none]) (s2 := [eI (3), eI (0), eR a0]) rfl rfl rfl ?_
      refine w_cw (np := 36) (as := [eI (0), eI (3)]) (l2 := [some (eR a0), some (eI (0)), some (eI (3))]) (rest := []) rfl rfl rfl (Nat.ble_eq.mp rfl) rfl rfl rfl (I3.kd gA0 (by decide) (n := 69) rfl) rfl ?_
      refine s_346 (a1 := 0) (a2 := 3) I3 gA0 (by decide) (by decide) e6 ?_
      intro m14 v17 I15 F16 e18 h19
      have F20 : Fr l_350 0 0 g μ m14 := F8.t F16 rfl
      have b21 : 0 ≤ v17 ∧ v17 ≤ 8 := by
        rw [← e18]
        exact I15.int gA0 (by decide) (n := 69) rfl (by decide) rfl
      show ex_q (dt_fg L ρ) rc (d + 3, (350, 36, [some (eR a0), some (eI (a1)), none], []), f :: F, m14)
      refine w_t (np := 37) (l2 := [some (eR a0), some (eI (a1)), none]) (s2 := [eR a0]) rfl (s_an rfl (pos_g I15 gA0 (by decide))) rfl ?_
      refine w_gf (np := 40) (v := eI (v10)) rfl rfl (I15.kd gA0 (by decide) (n := 69) rfl) (by rw [(F16.k e11 gA0 (by decide) rfl)]; rfl) ?_
      refine w_t (np := 41) (l2 := [some (eR a0), some (eI (a1)), some (eI (v10))]) (s2 := []) rfl rfl rfl ?_
      refine w_t (np := 42) (l2 := [some (eR a0), some (eI (a1)), some (eI (v10))]) (s2 := [eR a0]) rfl (s_an rfl (pos_g I15 gA0 (by decide))) rfl ?_
      refine w_gf (np := 45) (v := eI (v17)) rfl rfl (I15.kd gA0 (by decide) (n := 69) rfl) (by rw [e18]; rfl) ?_
      refine b_ine (t1 := 52) (t2 := 48) rfl rfl rfl (ev_w_in (by omega) (by omega)) (fun g22 => ?_) (fun g22 => ?_)
      · have b23 : 1 ≤ v17 ∧ v17 ≤ 8 := by omega
        refine w_t (np := 53) (l2 := [some (eR a0), some (eI (a1)), some (eI (v10))]) (s2 := [eI (v10)]) rfl rfl rfl ?_
        exact b_ri rfl rfl (K m14 (v10) (v17) (so) (pl) (th) I15 F20 (by omega) e18 (F16.k (F4.k h_so gA0 (by decide) rfl) gA0 (by decide) rfl) (F16.k (F4.k h_pl gA0 (by decide) rfl) gA0 (by decide) rfl) (F16.k (F4.k h_th gA0 (by decide) rfl) gA0 (by decide) rfl) (by omega) (by omega))
      · have b23 : 0 ≤ v17 ∧ v17 ≤ 0 := by omega
        refine w_t (np := 49) (l2 := [some (eR a0), some (eI (a1)), some (eI (v10))]) (s2 := [eR a0]) rfl (s_an rfl (pos_g I15 gA0 (by decide))) rfl ?_
        refine w_cw (np := 52) (as := []) (l2 := [some (eR a0)]) (rest := []) rfl rfl rfl (Nat.ble_eq.mp rfl) rfl rfl rfl (I15.kd gA0 (by decide) (n := 69) rfl) rfl ?_
        refine s_345 I15 gA0 (F16.k (F4.k h_so gA0 (by decide) rfl) gA0 (by decide) rfl) (F16.k (F4.k h_pl gA0 (by decide) rfl) gA0 (by decide) rfl) (F16.k (F4.k h_th gA0 (by decide) rfl) gA0 (by decide) rfl) (by omega) ?_
        intro m23 v26 v28 v30 I24 F25 e27 e29 e31 h32 h33
        have F34 : Fr l_350 0 0 g μ m23 := F20.t F25 rfl
        have b35 : -2147483648 ≤ v26 ∧ v26 ≤ 2147483647 := by
          rw [← e27]
          exact I24.int gA0 (by decide) (n := 69) rfl (by decide) rfl
        have b36 : 0 ≤ v28 ∧ v28 ≤ 902 := by
          rw [← e29]
          exact I24.int gA0 (by decide) (n := 69) rfl (by decide) rfl
        have b37 : 0 ≤ v30 ∧ v30 ≤ 902 := by
          rw [← e31]
          exact I24.int gA0 (by decide) (n := 69) rfl (by decide) rfl
        clear hp0 hp1
        show ex_q (dt_fg L ρ) rc (d + 3, (350, 52, [some (eR a0), some (eI (a1)), some (eI (v10))], []), f :: F, m23)
        refine w_t (np := 53) (l2 := [some (eR a0), some (eI (a1)), some (eI (v10))]) (s2 := [eI (v10)]) rfl rfl rfl ?_
        exact b_ri rfl rfl (K m23 (v10) (v17) (v26) (v28) (v30) I24 F34 (by omega) (F25.k e18 gA0 (by decide) rfl) e27 e29 e31 (by omega) (by omega))
    · refine w_t (np := 28) (l2 := [some (eR a0), some (eI (a1)), none]) (s2 := [eI (1), eR a0]) rfl rfl rfl ?_
      refine w_go (t1 := 32) rfl rfl ?_
      refine w_t (np := 33) (l2 := [some (eR a0), some (eI (a1)), none]) (s2 := [eI (3), eI (1), eR a0]) rfl rfl rfl ?_
      refine w_cw (np := 36) (as := [eI (1), eI (3)]) (l2 := [some (eR a0), some (eI (1)), some (eI (3))]) (rest := []) rfl rfl rfl (Nat.ble_eq.mp rfl) rfl rfl rfl (I3.kd gA0 (by decide) (n := 69) rfl) rfl ?_
      refine s_346 (a1 := 1) (a2 := 3) I3 gA0 (by decide) (by decide) e6 ?_
      intro m14 v17 I15 F16 e18 h19
      have F20 : Fr l_350 0 0 g μ m14 := F8.t F16 rfl
      have b21 : 0 ≤ v17 ∧ v17 ≤ 8 := by
        rw [← e18]
        exact I15.int gA0 (by decide) (n := 69) rfl (by decide) rfl
      show ex_q (dt_fg L ρ) rc (d + 3, (350, 36, [some (eR a0), some (eI (a1)), none], []), f :: F, m14)
      refine w_t (np := 37) (l2 := [some (eR a0), some (eI (a1)), none]) (s2 := [eR a0]) rfl (s_an rfl (pos_g I15 gA0 (by decide))) rfl ?_
      refine w_gf (np := 40) (v := eI (v10)) rfl rfl (I15.kd gA0 (by decide) (n := 69) rfl) (by rw [(F16.k e11 gA0 (by decide) rfl)]; rfl) ?_
      refine w_t (np := 41) (l2 := [some (eR a0), some (eI (a1)), some (eI (v10))]) (s2 := []) rfl rfl rfl ?_
      refine w_t (np := 42) (l2 := [some (eR a0), some (eI (a1)), some (eI (v10))]) (s2 := [eR a0]) rfl (s_an rfl (pos_g I15 gA0 (by decide))) rfl ?_
      refine w_gf (np := 45) (v := eI (v17)) rfl rfl (I15.kd gA0 (by decide) (n := 69) rfl) (by rw [e18]; rfl) ?_
      refine b_ine (t1 := 52) (t2 := 48) rfl rfl rfl (ev_w_in (by omega) (by omega)) (fun g22 => ?_) (fun g22 => ?_)
      · have b23 : 1 ≤ v17 ∧ v17 ≤ 8 := by omega
        refine w_t (np := 53) (l2 := [some (eR a0), some (eI (a1)), some (eI (v10))]) (s2 := [eI (v10)]) rfl rfl rfl ?_
        exact b_ri rfl rfl (K m14 (v10) (v17) (so) (pl) (th) I15 F20 (by omega) e18 (F16.k (F4.k h_so gA0 (by decide) rfl) gA0 (by decide) rfl) (F16.k (F4.k h_pl gA0 (by decide) rfl) gA0 (by decide) rfl) (F16.k (F4.k h_th gA0 (by decide) rfl) gA0 (by decide) rfl) (by omega) (by omega))
      · have b23 : 0 ≤ v17 ∧ v17 ≤ 0 := by omega
        refine w_t (np := 49) (l2 := [some (eR a0), some (eI (a1)), some (eI (v10))]) (s2 := [eR a0]) rfl (s_an rfl (pos_g I15 gA0 (by decide))) rfl ?_
        refine w_cw (np := 52) (as := []) (l2 := [some (eR a0)]) (rest := []) rfl rfl rfl (Nat.ble_eq.mp rfl) rfl rfl rfl (I15.kd gA0 (by decide) (n := 69) rfl) rfl ?_
        refine s_345 I15 gA0 (F16.k (F4.k h_so gA0 (by decide) rfl) gA0 (by decide) rfl) (F16.k (F4.k h_pl gA0 (by decide) rfl) gA0 (by decide) rfl) (F16.k (F4.k h_th gA0 (by decide) rfl) gA0 (by decide) rfl) (by omega) ?_
        intro m23 v26 v28 v30 I24 F25 e27 e29 e31 h32 h33
        have F34 : Fr l_350 0 0 g μ m23 := F20.t F25 rfl
        have b35 : -2147483648 ≤ v26 ∧ v26 ≤ 2147483647 := by
          rw [← e27]
          exact I24.int gA0 (by decide) (n := 69) rfl (by decide) rfl
        have b36 : 0 ≤ v28 ∧ v28 ≤ 902 := by
          rw [← e29]
          exact I24.int gA0 (by decide) (n := 69) rfl (by decide) rfl
        have b37 : 0 ≤ v30 ∧ v30 ≤ 902 := by
          rw [← e31]
          exact I24.int gA0 (by decide) (n := 69) rfl (by decide) rfl
        clear hp0 hp1
        show ex_q (dt_fg L ρ) rc (d + 3, (350, 52, [some (eR a0), some (eI (a1)), some (eI (v10))], []), f :: F, m23)
        refine w_t (np := 53) (l2 := [some (eR a0), some (eI (a1)), some (eI (v10))]) (s2 := [eI (v10)]) rfl rfl rfl ?_
        exact b_ri rfl rfl (K m23 (v10) (v17) (v26) (v28) (v30) I24 F34 (by omega) (F25.k e18 gA0 (by decide) rfl) e27 e29 e31 (by omega) (by omega))
  · have b2 : 2 ≤ so ∧ so ≤ 2 := by omega
    refine w_t (np := 10) (l2 := [some (eR a0), some (eI (a1)), none]) (s2 := [eI (1), eR a0]) rfl rfl rfl ?_
    refine w_go (t1 := 14) rfl rfl ?_
    refine w_t (np := 15) (l2 := [some (eR a0), some (eI (a1)), none]) (s2 := [eI (2), eI (1), eR a0]) rfl rfl rfl ?_
    refine w_cw (np := 18) (as := [eI (1), eI (2)]) (l2 := [some (eR a0), some (eI (1)), some (eI (2))]) (rest := []) rfl rfl rfl (Nat.ble_eq.mp rfl) rfl rfl rfl (hI.kd gA0 (by decide) (n := 69) rfl) rfl ?_
    refine s_346 (a1 := 1) (a2 := 2) hI gA0 (by decide) (by decide) h_wr ?_
    intro m2 v5 I3 F4 e6 h7
    have F8 : Fr l_350 0 0 g μ m2 := F0.t F4 rfl
    have b9 : 0 ≤ v5 ∧ v5 ≤ 8 := by
      rw [← e6]
      exact I3.int gA0 (by decide) (n := 69) rfl (by decide) rfl
    show ex_q (dt_fg L ρ) rc (d + 3, (350, 18, [some (eR a0), some (eI (a1)), none], []), f :: F, m2)
    refine w_t (np := 19) (l2 := [some (eR a0), some (eI (a1)), none]) (s2 := [eR a0]) rfl (s_an rfl (pos_g I3 gA0 (by decide))) rfl ?_
    refine w_t (np := 20) (l2 := [some (eR a0), some (eI (a1)), none]) (s2 := [eR a0, eR a0]) rfl (s_an rfl (pos_g I3 gA0 (by decide))) rfl ?_
    refine j_gi (np := 23) rfl rfl rfl I3 gA0 (by decide) (n := 69) rfl rfl (lo := -2147483648) (hi := 2147483647) rfl ?_
    intro v10 e11 b12
    refine w_t (np := 24) (l2 := [some (eR a0), some (eI (a1)), none]) (s2 := [eI (a1), eI (v10), eR a0]) rfl rfl rfl ?_
    refine b_cgt (t1 := 31) (t2 := 27) rfl rfl rfl (ev_w_in (by omega) (by omega)) (ev_w_in (by omega) (by omega)) (fun g13 => ?_) (fun g13 => ?_)
    · have b14 : -2147483647 ≤ v10 ∧ v10 ≤ 2147483647 := by omega
      have b15 : -2147483648 ≤ a1 ∧ a1 ≤ 2147483646 := by omega
      refine w_t (np := 32) (l2 := [some (eR a0), some (eI (a1)), none]) (s2 := [eI (0), eR a0]) rfl rfl rfl ?_
      refine w_t (np := 33) (l2 := [some (eR a0), some (eI (a1)), none]) (s2 := [eI (3), eI (0), eR a0]) rfl rfl rfl ?_
      refine w_cw (np := 36) (as := [eI (0), eI (3)]) (l2 := [some (eR a0), some (eI (0)), some (eI (3))]) (rest := []) rfl rfl rfl (Nat.ble_eq.mp rfl) rfl rfl rfl (I3.kd gA0 (by decide) (n := 69) rfl) rfl ?_
      refine s_346 (a1 := 0) (a2 := 3) I3 gA0 (by decide) (by decide) e6 ?_
      intro m14 v17 I15 F16 e18 h19
      have F20 : Fr l_350 0 0 g μ m14 := F8.t F16 rfl
      have b21 : 0 ≤ v17 ∧ v17 ≤ 8 := by
        rw [← e18]
        exact I15.int gA0 (by decide) (n := 69) rfl (by decide) rfl
      show ex_q (dt_fg L ρ) rc (d + 3, (350, 36, [some (eR a0), some (eI (a1)), none], []), f :: F, m14)
      refine w_t (np := 37) (l2 := [some (eR a0), some (eI (a1)), none]) (s2 := [eR a0]) rfl (s_an rfl (pos_g I15 gA0 (by decide))) rfl ?_
      refine w_gf (np := 40) (v := eI (v10)) rfl rfl (I15.kd gA0 (by decide) (n := 69) rfl) (by rw [(F16.k e11 gA0 (by decide) rfl)]; rfl) ?_
      refine w_t (np := 41) (l2 := [some (eR a0), some (eI (a1)), some (eI (v10))]) (s2 := []) rfl rfl rfl ?_
      refine w_t (np := 42) (l2 := [some (eR a0), some (eI (a1)), some (eI (v10))]) (s2 := [eR a0]) rfl (s_an rfl (pos_g I15 gA0 (by decide))) rfl ?_
      refine w_gf (np := 45) (v := eI (v17)) rfl rfl (I15.kd gA0 (by decide) (n := 69) rfl) (by rw [e18]; rfl) ?_
      refine b_ine (t1 := 52) (t2 := 48) rfl rfl rfl (ev_w_in (by omega) (by omega)) (fun g22 => ?_) (fun g22 => ?_)
      · have b23 : 1 ≤ v17 ∧ v17 ≤ 8 := by omega
        refine w_t (np := 53) (l2 := [some (eR a0), some (eI (a1)), some (eI (v10))]) (s2 := [eI (v10)]) rfl rfl rfl ?_
        exact b_ri rfl rfl (K m14 (v10) (v17) (so) (pl) (th) I15 F20 (by omega) e18 (F16.k (F4.k h_so gA0 (by decide) rfl) gA0 (by decide) rfl) (F16.k (F4.k h_pl gA0 (by decide) rfl) gA0 (by decide) rfl) (F16.k (F4.k h_th gA0 (by decide) rfl) gA0 (by decide) rfl) (by omega) (by omega))
      · have b23 : 0 ≤ v17 ∧ v17 ≤ 0 := by omega
        refine w_t (np := 49) (l2 := [some (eR a0), some (eI (a1)), some (eI (v10))]) (s2 := [eR a0]) rfl (s_an rfl (pos_g I15 gA0 (by decide))) rfl ?_
        refine w_cw (np := 52) (as := []) (l2 := [some (eR a0)]) (rest := []) rfl rfl rfl (Nat.ble_eq.mp rfl) rfl rfl rfl (I15.kd gA0 (by decide) (n := 69) rfl) rfl ?_
        refine s_345 I15 gA0 (F16.k (F4.k h_so gA0 (by decide) rfl) gA0 (by decide) rfl) (F16.k (F4.k h_pl gA0 (by decide) rfl) gA0 (by decide) rfl) (F16.k (F4.k h_th gA0 (by decide) rfl) gA0 (by decide) rfl) (by omega) ?_
        intro m23 v26 v28 v30 I24 F25 e27 e29 e31 h32 h33
        have F34 : Fr l_350 0 0 g μ m23 := F20.t F25 rfl
        have b35 : -2147483648 ≤ v26 ∧ v26 ≤ 2147483647 := by
          rw [← e27]
          exact I24.int gA0 (by decide) (n := 69) rfl (by decide) rfl
        have b36 : 0 ≤ v28 ∧ v28 ≤ 902 := by
          rw [← e29]
          exact I24.int gA0 (by decide) (n := 69) rfl (by decide) rfl
        have b37 : 0 ≤ v30 ∧ v30 ≤ 902 := by
          rw [← e31]
          exact I24.int gA0 (by decide) (n := 69) rfl (by decide) rfl
        clear hp0 hp1
        show ex_q (dt_fg L ρ) rc (d + 3, (350, 52, [some (eR a0), some (eI (a1)), some (eI (v10))], []), f :: F, m23)
        refine w_t (np := 53) (l2 := [some (eR a0), some (eI (a1)), some (eI (v10))]) (s2 := [eI (v10)]) rfl rfl rfl ?_
        exact b_ri rfl rfl (K m23 (v10) (v17) (v26) (v28) (v30) I24 F34 (by omega) (F25.k e18 gA0 (by decide) rfl) e27 e29 e31 (by omega) (by omega))
    · refine w_t (np := 28) (l2 := [some (eR a0), some (eI (a1)), none]) (s2 := [eI (1), eR a0]) rfl rfl rfl ?_
      refine w_go (t1 := 32) rfl rfl ?_
      refine w_t (np := 33) (l2 := [some (eR a0), some (eI (a1)), none]) (s2 := [eI (3), eI (1), eR a0]) rfl rfl rfl ?_
      refine w_cw (np := 36) (as := [eI (1), eI (3)]) (l2 := [some (eR a0), some (eI (1)), some (eI (3))]) (rest := []) rfl rfl rfl (Nat.ble_eq.mp rfl) rfl rfl rfl (I3.kd gA0 (by decide) (n := 69) rfl) rfl ?_
      refine s_346 (a1 := 1) (a2 := 3) I3 gA0 (by decide) (by decide) e6 ?_
      intro m14 v17 I15 F16 e18 h19
      have F20 : Fr l_350 0 0 g μ m14 := F8.t F16 rfl
      have b21 : 0 ≤ v17 ∧ v17 ≤ 8 := by
        rw [← e18]
        exact I15.int gA0 (by decide) (n := 69) rfl (by decide) rfl
      show ex_q (dt_fg L ρ) rc (d + 3, (350, 36, [some (eR a0), some (eI (a1)), none], []), f :: F, m14)
      refine w_t (np := 37) (l2 := [some (eR a0), some (eI (a1)), none]) (s2 := [eR a0]) rfl (s_an rfl (pos_g I15 gA0 (by decide))) rfl ?_
      refine w_gf (np := 40) (v := eI (v10)) rfl rfl (I15.kd gA0 (by decide) (n := 69) rfl) (by rw [(F16.k e11 gA0 (by decide) rfl)]; rfl) ?_
      refine w_t (np := 41) (l2 := [some (eR a0), some (eI (a1)), some (eI (v10))]) (s2 := []) rfl rfl rfl ?_
      refine w_t (np := 42) (l2 := [some (eR a0), some (eI (a1)), some (eI (v10))]) (s2 := [eR a0]) rfl (s_an rfl (pos_g I15 gA0 (by decide))) rfl ?_
      refine w_gf (np := 45) (v := eI (v17)) rfl rfl (I15.kd gA0 (by decide) (n := 69) rfl) (by rw [e18]; rfl) ?_
      refine b_ine (t1 := 52) (t2 := 48) rfl rfl rfl (ev_w_in (by omega) (by omega)) (fun g22 => ?_) (fun g22 => ?_)
      · have b23 : 1 ≤ v17 ∧ v17 ≤ 8 := by omega
        refine w_t (np := 53) (l2 := [some (eR a0), some (eI (a1)), some (eI (v10))]) (s2 := [eI (v10)]) rfl rfl rfl ?_
        exact b_ri rfl rfl (K m14 (v10) (v17) (so) (pl) (th) I15 F20 (by omega) e18 (F16.k (F4.k h_so gA0 (by decide) rfl) gA0 (by decide) rfl) (F16.k (F4.k h_pl gA0 (by decide) rfl) gA0 (by decide) rfl) (F16.k (F4.k h_th gA0 (by decide) rfl) gA0 (by decide) rfl) (by omega) (by omega))
      · have b23 : 0 ≤ v17 ∧ v17 ≤ 0 := by omega
        refine w_t (np := 49) (l2 := [some (eR a0), some (eI (a1)), some (eI (v10))]) (s2 := [eR a0]) rfl (s_an rfl (pos_g I15 gA0 (by decide))) rfl ?_
        refine w_cw (np := 52) (as := []) (l2 := [some (eR a0)]) (rest := []) rfl rfl rfl (Nat.ble_eq.mp rfl) rfl rfl rfl (I15.kd gA0 (by decide) (n := 69) rfl) rfl ?_
        refine s_345 I15 gA0 (F16.k (F4.k h_so gA0 (by decide) rfl) gA0 (by decide) rfl) (F16.k (F4.k h_pl gA0 (by decide) rfl) gA0 (by decide) rfl) (F16.k (F4.k h_th gA0 (by decide) rfl) gA0 (by decide) rfl) (by omega) ?_
        intro m23 v26 v28 v30 I24 F25 e27 e29 e31 h32 h33
        have F34 : Fr l_350 0 0 g μ m23 := F20.t F25 rfl
        have b35 : -2147483648 ≤ v26 ∧ v26 ≤ 2147483647 := by
          rw [← e27]
          exact I24.int gA0 (by decide) (n := 69) rfl (by decide) rfl
        have b36 : 0 ≤ v28 ∧ v28 ≤ 902 := by
          rw [← e29]
          exact I24.int gA0 (by decide) (n := 69) rfl (by decide) rfl
        have b37 : 0 ≤ v30 ∧ v30 ≤ 902 := by
          rw [← e31]
          exact I24.int gA0 (by decide) (n := 69) rfl (by decide) rfl
        clear hp0 hp1
        show ex_q (dt_fg L ρ) rc (d + 3, (350, 52, [some (eR a0), some (eI (a1)), some (eI (v10))], []), f :: F, m23)
        refine w_t (np := 53) (l2 := [some (eR a0), some (eI (a1)), some (eI (v10))]) (s2 := [eI (v10)]) rfl rfl rfl ?_
        exact b_ri rfl rfl (K m23 (v10) (v17) (v26) (v28) (v30) I24 F34 (by omega) (F25.k e18 gA0 (by decide) rfl) e27 e29 e31 (by omega) (by omega))
def l_351 : List Nat := [13370, 13371, 13372, 13373, 13374, 13375, 13378]
theorem s_351 {L : Nat} {ρ : Nat → Int} {rc : eQ} {d : Nat} {f : eFr} {F : List eFr} {μ : eM} {g : Nat → Nat} {a0 : Nat} {wr : Int} {so : Int} {pl : Int} {th : Int} (hI : SI g μ) (gA0 : g a0 = 52) (h_wr : μ.1 a0 57 = wr) (h_so : μ.1 a0 61 = so) (h_pl : μ.1 a0 59 = pl) (h_th : μ.1 a0 60 = th) (hp0 : so = 0 ∨ so = 4 ∨ th ≤ 900) (hp1 : so ≠ 3 ∨ pl ≤ 899) (K : ∀ (μ2 : eM) (v : Int) (wr2 : Int) (so2 : Int) (pl2 : Int) (th2 : Int), SI g μ2 → Fr l_351 0 0 g μ μ2 → (-2147483648 ≤ v ∧ v ≤ 2147483647) → μ2.1 a0 57 = wr2 → μ2.1 a0 61 = so2 → μ2.1 a0 59 = pl2 → μ2.1 a0 60 = th2 → (so2 = 0 ∨ so2 = 4 ∨ th2 ≤ 900) → (so2 ≠ 3 ∨ pl2 ≤ 899) → ex_q (dt_fg L ρ) rc (d + 5, (f.1, f.2.1, f.2.2.1, eI v :: f.2.2.2), F, μ2)) : ex_q (dt_fg L ρ) rc (d + 4, (351, 0, [some (eR a0), none, none], []), f :: F, μ) := by
  have F0 : Fr l_351 0 0 g μ μ := Fr.r
  have b_wr : 0 ≤ wr ∧ wr ≤ 8 := by
    rw [← h_wr]
    exact hI.int gA0 (by decide) (n := 69) rfl (by decide) rfl
  have b_so : -2147483648 ≤ so ∧ so ≤ 2147483647 := by
    rw [← h_so]
    exact hI.int gA0 (by decide) (n := 69) rfl (by decide) rfl
  have b_pl : 0 ≤ pl ∧ pl ≤ 902 := by
    rw [← h_pl]
    exact hI.int gA0 (by decide) (n := 69) rfl (by decide) rfl
  have b_th : 0 ≤ th ∧ th ≤ 902 := by
    rw [← h_th]
    exact hI.int gA0 (by decide) (n := 69) rfl (by decide) rfl
  refine w_t (np := 1) (l2 := [some (eR a0), none, none]) (s2 := [eR a0]) rfl (s_an rfl (pos_g hI gA0 (by decide))) rfl ?_
  refine w_t (np := 3) (l2 := [some (eR a0), none, none]) (s2 := [eI (45), eR a0]) rfl rfl rfl ?_
  refine w_cw (np := 6) (as := [eI (45)]) (l2 := [some (eR a0), some (eI (45))]) (rest := []) rfl rfl rfl (Nat.ble_eq.mp rfl) rfl rfl rfl (hI.kd gA0 (by decide) (n := 69) rfl) rfl ?_
  refine s_348 (a1 := 45) hI gA0 (by decide) h_wr h_so h_pl (by omega) ?_
  intro v1 b2 h3
  show ex_q (dt_fg L ρ) rc (d + 4, (351, 6, [some (eR a0), none, none], [eI (v1)]), f :: F, μ)
  refine w_t (np := 7) (l2 := [some (eR a0), some (eI (v1)), none]) (s2 := []) rfl rfl rfl ?_
  refine w_t (np := 8) (l2 := [some (eR a0), some (eI (v1)), none]) (s2 := [eI (v1)]) rfl rfl rfl ?_
  refine b_ieq (t1 := 15) (t2 := 11) rfl rfl rfl (ev_w_in (by omega) (by omega)) (fun g4 => ?_) (fun g4 => ?_)
  · have b5 : 0 ≤ v1 ∧ v1 ≤ 0 := by omega
    refine w_t (np := 16) (l2 := [some (eR a0), some (eI (v1)), none]) (s2 := [eR a0]) rfl (s_an rfl (pos_g hI gA0 (by decide))) rfl ?_
    refine w_t (np := 19) (l2 := [some (eR a0), some (eI (v1)), none]) (s2 := [eI (999), eR a0]) rfl rfl rfl ?_
    refine w_cw (np := 22) (as := [eI (999)]) (l2 := [some (eR a0), some (eI (999)), none]) (rest := []) rfl rfl rfl (Nat.ble_eq.mp rfl) rfl rfl rfl (hI.kd gA0 (by decide) (n := 69) rfl) rfl ?_
    refine s_350 (a1 := 999) hI gA0 (by decide) h_wr h_so h_pl h_th (by omega) (by omega) ?_
    intro m5 v8 v10 v12 v14 v16 I6 F7 b9 e11 e13 e15 e17 h18 h19
    have F20 : Fr l_351 0 0 g μ m5 := F0.t F7 rfl
    have b21 : 0 ≤ v10 ∧ v10 ≤ 8 := by
      rw [← e11]
      exact I6.int gA0 (by decide) (n := 69) rfl (by decide) rfl
    have b22 : -2147483648 ≤ v12 ∧ v12 ≤ 2147483647 := by
      rw [← e13]
      exact I6.int gA0 (by decide) (n := 69) rfl (by decide) rfl
    have b23 : 0 ≤ v14 ∧ v14 ≤ 902 := by
      rw [← e15]
      exact I6.int gA0 (by decide) (n := 69) rfl (by decide) rfl
    have b24 : 0 ≤ v16 ∧ v16 ≤ 902 := by
      rw [← e17]
      exact I6.int gA0 (by decide) (n := 69) rfl (by decide) rfl
    clear hp0 hp1
    show ex_q (dt_fg L ρ) rc (d + 4, (351, 22, [some (eR a0), some (eI (v1)), none], [eI (v8)]), f :: F, m5)
    refine w_t (np := 23) (l2 := [some (eR a0), some (eI (v1)), some (eI (v8))]) (s2 := []) rfl rfl rfl ?_
    refine w_t (np := 24) (l2 := [some (eR a0), some (eI (v1)), some (eI (v8))]) (s2 := [eI (v1)]) rfl rfl rfl ?_
    refine b_ieq (t1 := 33) (t2 := 27) rfl rfl rfl (ev_w_in (by omega) (by omega)) (fun g25 => ?_) (fun g25 => False.elim (by omega))
    refine w_t (np := 34) (l2 := [some (eR a0), some (eI (v1)), some (eI (v8))]) (s2 := [eI (v8)]) rfl rfl rfl ?_
    exact b_ri rfl rfl (K m5 (v8) (v10) (v12) (v14) (v16) I6 F20 (by omega) e11 e13 e15 e17 (by omega) (by omega))
  · have b5 : 1 ≤ v1 ∧ v1 ≤ 1 := by omega
    refine w_t (np := 12) (l2 := [some (eR a0), some (eI (v1)), none]) (s2 := [eR a0]) rfl (s_an rfl (pos_g hI gA0 (by decide))) rfl ?_
    refine w_cw (np := 15) (as := []) (l2 := [some (eR a0)]) (rest := []) rfl rfl rfl (Nat.ble_eq.mp rfl) rfl rfl rfl (hI.kd gA0 (by decide) (n := 69) rfl) rfl ?_
    refine s_345 hI gA0 h_so h_pl h_th (by omega) ?_
    intro m5 v8 v10 v12 I6 F7 e9 e11 e13 h14 h15
    have F16 : Fr l_351 0 0 g μ m5 := F0.t F7 rfl
    have b17 : -2147483648 ≤ v8 ∧ v8 ≤ 2147483647 := by
      rw [← e9]
      exact I6.int gA0 (by decide) (n := 69) rfl (by decide) rfl
    have b18 : 0 ≤ v10 ∧ v10 ≤ 902 := by
      rw [← e11]
      exact I6.int gA0 (by decide) (n := 69) rfl (by decide) rfl
    have b19 : 0 ≤ v12 ∧ v12 ≤ 902 := by
      rw [← e13]
      exact I6.int gA0 (by decide) (n := 69) rfl (by decide) rfl
    clear hp0 hp1
    show ex_q (dt_fg L ρ) rc (d + 4, (351, 15, [some (eR a0), some (eI (v1)), none], []), f :: F, m5)
    refine w_t (np := 16) (l2 := [some (eR a0), some (eI (v1)), none]) (s2 := [eR a0]) rfl (s_an rfl (pos_g I6 gA0 (by decide))) rfl ?_
    refine w_t (np := 19) (l2 := [some (eR a0), some (eI (v1)), none]) (s2 := [eI (999), eR a0]) rfl rfl rfl ?_
    refine w_cw (np := 22) (as := [eI (999)]) (l2 := [some (eR a0), some (eI (999)), none]) (rest := []) rfl rfl rfl (Nat.ble_eq.mp rfl) rfl rfl rfl (I6.kd gA0 (by decide) (n := 69) rfl) rfl ?_
    refine s_350 (a1 := 999) I6 gA0 (by decide) (F7.k h_wr gA0 (by decide) rfl) e9 e11 e13 (by omega) (by omega) ?_
    intro m20 v23 v25 v27 v29 v31 I21 F22 b24 e26 e28 e30 e32 h33 h34
    have F35 : Fr l_351 0 0 g μ m20 := F16.t F22 rfl
    have b36 : 0 ≤ v25 ∧ v25 ≤ 8 := by
      rw [← e26]
      exact I21.int gA0 (by decide) (n := 69) rfl (by decide) rfl
    have b37 : -2147483648 ≤ v27 ∧ v27 ≤ 2147483647 := by
      rw [← e28]
      exact I21.int gA0 (by decide) (n := 69) rfl (by decide) rfl
    have b38 : 0 ≤ v29 ∧ v29 ≤ 902 := by
      rw [← e30]
      exact I21.int gA0 (by decide) (n := 69) rfl (by decide) rfl
    have b39 : 0 ≤ v31 ∧ v31 ≤ 902 := by
      rw [← e32]
      exact I21.int gA0 (by decide) (n := 69) rfl (by decide) rfl
    clear h14 h15
    show ex_q (dt_fg L ρ) rc (d + 4, (351, 22, [some (eR a0), some (eI (v1)), none], [eI (v23)]), f :: F, m20)
    refine w_t (np := 23) (l2 := [some (eR a0), some (eI (v1)), some (eI (v23))]) (s2 := []) rfl rfl rfl ?_
    refine w_t (np := 24) (l2 := [some (eR a0), some (eI (v1)), some (eI (v23))]) (s2 := [eI (v1)]) rfl rfl rfl ?_
    refine b_ieq (t1 := 33) (t2 := 27) rfl rfl rfl (ev_w_in (by omega) (by omega)) (fun g40 => False.elim (by omega)) (fun g40 => ?_)
    refine w_t (np := 28) (l2 := [some (eR a0), some (eI (v1)), some (eI (v23))]) (s2 := [eI (0)]) rfl rfl rfl ?_
    refine w_t (np := 29) (l2 := [some (eR a0), some (eI (v1)), some (eI (v23))]) (s2 := [eI (v23), eI (0)]) rfl rfl rfl ?_
    obtain ⟨v41, e42, b43⟩ : ∃ zz : Int, ev_w ((0) - (v23)) = zz ∧ (-2147483648 ≤ zz ∧ zz ≤ 2147483647) := ⟨_, rfl, hw_bd _⟩
    refine w_t (np := 30) (l2 := [some (eR a0), some (eI (v1)), some (eI (v23))]) (s2 := [eI (v41)]) rfl (b_isub e42) rfl ?_
    refine w_go (t1 := 34) rfl rfl ?_
    exact b_ri rfl rfl (K m20 (v41) (v25) (v27) (v29) (v31) I21 F35 (by omega) e26 e28 e30 e32 (by omega) (by omega))
def l_352 : List Nat := [13315, 13316, 13317, 13362, 13318, 13370, 13371, 13372, 13373, 13374, 13375, 13378, 21504, 21248, 20224]
set_option maxHeartbeats 8000000 in
theorem s_352 {L : Nat} {ρ : Nat → Int} {rc : eQ} {d : Nat} {f : eFr} {F : List eFr} {μ : eM} {g : Nat → Nat} {a0 : Nat} {wr : Int} {so : Int} {pl : Int} {th : Int} {rh : Int} (hI : SI g μ) (gA0 : g a0 = 52) (h_wr : μ.1 a0 57 = wr) (h_so : μ.1 a0 61 = so) (h_pl : μ.1 a0 59 = pl) (h_th : μ.1 a0 60 = th) (h_rh : μ.1 a0 49 = rh) (hp0 : wr = 0) (hp1 : so ≠ 0) (hp2 : so = 0 ∨ so = 4 ∨ th ≤ 900) (hp3 : so ≠ 3 ∨ pl ≤ 899) (K : ∀ (μ2 : eM) (wr2 : Int) (so2 : Int) (pl2 : Int) (th2 : Int) (rh2 : Int), SI g μ2 → Fr l_352 0 0 g μ μ2 → μ2.1 a0 57 = wr2 → μ2.1 a0 61 = so2 → μ2.1 a0 59 = pl2 → μ2.1 a0 60 = th2 → μ2.1 a0 49 = rh2 → (so2 = 0 ∨ so2 = 4 ∨ th2 ≤ 900) → (so2 ≠ 3 ∨ pl2 ≤ 899) → ((wr2 = 0 ∧ rh2 = rh + 1) ∨ (wr2 ≠ 0 ∧ rh2 = rh)) → ex_q (dt_fg L ρ) rc (d + 8, (f.1, f.2.1, f.2.2.1, f.2.2.2), F, μ2)) : ex_q (dt_fg L ρ) rc (d + 7, (352, 0, [some (eR a0), none, none, none, none, none, none, none, none, none], []), f :: F, μ) := by
  have F0 : Fr l_352 0 0 g μ μ := Fr.r
  have b_wr : 0 ≤ wr ∧ wr ≤ 8 := by
    rw [← h_wr]
    exact hI.int gA0 (by decide) (n := 69) rfl (by decide) rfl
  have b_so : -2147483648 ≤ so ∧ so ≤ 2147483647 := by
    rw [← h_so]
    exact hI.int gA0 (by decide) (n := 69) rfl (by decide) rfl
  have b_pl : 0 ≤ pl ∧ pl ≤ 902 := by
    rw [← h_pl]
    exact hI.int gA0 (by decide) (n := 69) rfl (by decide) rfl
  have b_th : 0 ≤ th ∧ th ≤ 902 := by
    rw [← h_th]
    exact hI.int gA0 (by decide) (n := 69) rfl (by decide) rfl
  have b_rh : 0 ≤ rh ∧ rh ≤ 24 := by
    rw [← h_rh]
    exact hI.int gA0 (by decide) (n := 69) rfl (by decide) rfl
  refine w_t (np := 1) (l2 := [some (eR a0), none, none, none, none, none, none, none, none, none]) (s2 := [eR a0]) rfl (s_an rfl (pos_g hI gA0 (by decide))) rfl ?_
  refine w_t (np := 2) (l2 := [some (eR a0), none, none, none, none, none, none, none, none, none]) (s2 := [eI (1), eR a0]) rfl rfl rfl ?_
  refine w_cw (np := 5) (as := [eI (1)]) (l2 := [some (eR a0), some (eI (1))]) (rest := []) rfl rfl rfl (Nat.ble_eq.mp rfl) rfl rfl rfl (hI.kd gA0 (by decide) (n := 69) rfl) rfl ?_
  refine s_347 (a1 := 1) hI gA0 (by decide) h_wr h_so ?_
  intro v1 b2 h3
  show ex_q (dt_fg L ρ) rc (d + 7, (352, 5, [some (eR a0), none, none, none, none, none, none, none, none, none], [eI (v1)]), f :: F, μ)
  refine w_t (np := 6) (l2 := [some (eR a0), some (eI (v1)), none, none, none, none, none, none, none, none]) (s2 := []) rfl rfl rfl ?_
  refine w_t (np := 7) (l2 := [some (eR a0), some (eI (v1)), none, none, none, none, none, none, none, none]) (s2 := [eR a0]) rfl (s_an rfl (pos_g hI gA0 (by decide))) rfl ?_
  refine w_t (np := 8) (l2 := [some (eR a0), some (eI (v1)), none, none, none, none, none, none, none, none]) (s2 := [eI (v1), eR a0]) rfl rfl rfl ?_
  refine b_ine (t1 := 19) (t2 := 11) rfl rfl rfl (ev_w_in (by omega) (by omega)) (fun g4 => ?_) (fun g4 => ?_)
  · have b5 : 1 ≤ v1 ∧ v1 ≤ 1 := by omega
    refine w_t (np := 20) (l2 := [some (eR a0), some (eI (v1)), none, none, none, none, none, none, none, none]) (s2 := [eI (1), eR a0]) rfl rfl rfl ?_
    refine w_go (t1 := 24) rfl rfl ?_
    refine w_t (np := 25) (l2 := [some (eR a0), some (eI (v1)), none, none, none, none, none, none, none, none]) (s2 := [eI (2), eI (1), eR a0]) rfl rfl rfl ?_
    refine w_cw (np := 28) (as := [eI (1), eI (2)]) (l2 := [some (eR a0), some (eI (1)), some (eI (2))]) (rest := []) rfl rfl rfl (Nat.ble_eq.mp rfl) rfl rfl rfl (hI.kd gA0 (by decide) (n := 69) rfl) rfl ?_
    refine s_346 (a1 := 1) (a2 := 2) hI gA0 (by decide) (by decide) h_wr ?_
    intro m5 v8 I6 F7 e9 h10
    have F11 : Fr l_352 0 0 g μ m5 := F0.t F7 rfl
    have b12 : 0 ≤ v8 ∧ v8 ≤ 8 := by
      rw [← e9]
      exact I6.int gA0 (by decide) (n := 69) rfl (by decide) rfl
    show ex_q (dt_fg L ρ) rc (d + 7, (352, 28, [some (eR a0), some (eI (v1)), none, none, none, none, none, none, none, none], []), f :: F, m5)
    refine w_t (np := 29) (l2 := [some (eR a0), some (eI (v1)), none, none, none, none, none, none, none, none]) (s2 := [eR a0]) rfl (s_an rfl (pos_g I6 gA0 (by decide))) rfl ?_
    refine w_t (np := 30) (l2 := [some (eR a0), some (eI (v1)), none, none, none, none, none, none, none, none]) (s2 := [eR a0, eR a0]) rfl (s_an rfl (pos_g I6 gA0 (by decide))) rfl ?_
    refine w_gf (np := 33) (v := eI (rh)) rfl rfl (I6.kd gA0 (by decide) (n := 69) rfl) (by rw [(F7.k h_rh gA0 (by decide) rfl)]; rfl) ?_
    refine w_t (np := 35) (l2 := [some (eR a0), some (eI (v1)), none, none, none, none, none, none, none, none]) (s2 := [eI (24), eI (rh), eR a0]) rfl rfl rfl ?_
    refine b_cge (t1 := 42) (t2 := 38) rfl rfl rfl (ev_w_in (by omega) (by omega)) rfl (fun g13 => ?_) (fun g13 => ?_)
    · have b14 : 24 ≤ rh ∧ rh ≤ 24 := by omega
      refine w_t (np := 43) (l2 := [some (eR a0), some (eI (v1)), none, none, none, none, none, none, none, none]) (s2 := [eI (0), eR a0]) rfl rfl rfl ?_
      refine w_t (np := 44) (l2 := [some (eR a0), some (eI (v1)), none, none, none, none, none, none, none, none]) (s2 := [eI (4), eI (0), eR a0]) rfl rfl rfl ?_
      refine w_cw (np := 47) (as := [eI (0), eI (4)]) (l2 := [some (eR a0), some (eI (0)), some (eI (4))]) (rest := []) rfl rfl rfl (Nat.ble_eq.mp rfl) rfl rfl rfl (I6.kd gA0 (by decide) (n := 69) rfl) rfl ?_
      refine s_346 (a1 := 0) (a2 := 4) I6 gA0 (by decide) (by decide) e9 ?_
      intro m14 v17 I15 F16 e18 h19
      have F20 : Fr l_352 0 0 g μ m14 := F11.t F16 rfl
      have b21 : 0 ≤ v17 ∧ v17 ≤ 8 := by
        rw [← e18]
        exact I15.int gA0 (by decide) (n := 69) rfl (by decide) rfl
      show ex_q (dt_fg L ρ) rc (d + 7, (352, 47, [some (eR a0), some (eI (v1)), none, none, none, none, none, none, none, none], []), f :: F, m14)
      refine w_t (np := 48) (l2 := [some (eR a0), some (eI (v1)), none, none, none, none, none, none, none, none]) (s2 := [eR a0]) rfl (s_an rfl (pos_g I15 gA0 (by decide))) rfl ?_
      refine w_gf (np := 51) (v := eI (pl)) rfl rfl (I15.kd gA0 (by decide) (n := 69) rfl) (by rw [(F16.k (F7.k h_pl gA0 (by decide) rfl) gA0 (by decide) rfl)]; rfl) ?_
      refine w_t (np := 52) (l2 := [some (eR a0), some (eI (v1)), some (eI (pl)), none, none, none, none, none, none, none]) (s2 := []) rfl rfl rfl ?_
      refine w_t (np := 53) (l2 := [some (eR a0), some (eI (v1)), some (eI (pl)), none, none, none, none, none, none, none]) (s2 := [eR a0]) rfl (s_an rfl (pos_g I15 gA0 (by decide))) rfl ?_
      refine w_gf (np := 56) (v := eI (v17)) rfl rfl (I15.kd gA0 (by decide) (n := 69) rfl) (by rw [e18]; rfl) ?_
      refine b_ile (t1 := 60) (t2 := 59) rfl rfl rfl (ev_w_in (by omega) (by omega)) (fun g22 => ?_) (fun g22 => ?_)
      · have b23 : 0 ≤ v17 ∧ v17 ≤ 0 := by omega
        refine w_t (np := 61) (l2 := [some (eR a0), some (eI (v1)), some (eI (pl)), none, none, none, none, none, none, none]) (s2 := [eR a0]) rfl (s_an rfl (pos_g I15 gA0 (by decide))) rfl ?_
        refine w_cw (np := 64) (as := []) (l2 := [some (eR a0)]) (rest := []) rfl rfl rfl (Nat.ble_eq.mp rfl) rfl rfl rfl (I15.kd gA0 (by decide) (n := 69) rfl) rfl ?_
        refine s_345 I15 gA0 (F16.k (F7.k h_so gA0 (by decide) rfl) gA0 (by decide) rfl) (F16.k (F7.k h_pl gA0 (by decide) rfl) gA0 (by decide) rfl) (F16.k (F7.k h_th gA0 (by decide) rfl) gA0 (by decide) rfl) (by omega) ?_
        intro m23 v26 v28 v30 I24 F25 e27 e29 e31 h32 h33
        have F34 : Fr l_352 0 0 g μ m23 := F20.t F25 rfl
        have b35 : -2147483648 ≤ v26 ∧ v26 ≤ 2147483647 := by
          rw [← e27]
          exact I24.int gA0 (by decide) (n := 69) rfl (by decide) rfl
        have b36 : 0 ≤ v28 ∧ v28 ≤ 902 := by
          rw [← e29]
          exact I24.int gA0 (by decide) (n := 69) rfl (by decide) rfl
        have b37 : 0 ≤ v30 ∧ v30 ≤ 902 := by
          rw [← e31]
          exact I24.int gA0 (by decide) (n := 69) rfl (by decide) rfl
        clear hp2 hp3
        show ex_q (dt_fg L ρ) rc (d + 7, (352, 64, [some (eR a0), some (eI (v1)), some (eI (pl)), none, none, none, none, none, none, none], []), f :: F, m23)
        refine w_t (np := 65) (l2 := [some (eR a0), some (eI (v1)), some (eI (pl)), none, none, none, none, none, none, none]) (s2 := [eR a0]) rfl (s_an rfl (pos_g I24 gA0 (by decide))) rfl ?_
        refine w_cw (np := 68) (as := []) (l2 := [some (eR a0), none, none]) (rest := []) rfl rfl rfl (Nat.ble_eq.mp rfl) rfl rfl rfl (I24.kd gA0 (by decide) (n := 69) rfl) rfl ?_
        refine s_351 I24 gA0 (F25.k e18 gA0 (by decide) rfl) e27 e29 e31 (by omega) (by omega) ?_
        intro m38 v41 v43 v45 v47 v49 I39 F40 b42 e44 e46 e48 e50 h51 h52
        have F53 : Fr l_352 0 0 g μ m38 := F34.t F40 rfl
        have b54 : 0 ≤ v43 ∧ v43 ≤ 8 := by
          rw [← e44]
          exact I39.int gA0 (by decide) (n := 69) rfl (by decide) rfl
        have b55 : -2147483648 ≤ v45 ∧ v45 ≤ 2147483647 := by
          rw [← e46]
          exact I39.int gA0 (by decide) (n := 69) rfl (by decide) rfl
        have b56 : 0 ≤ v47 ∧ v47 ≤ 902 := by
          rw [← e48]
          exact I39.int gA0 (by decide) (n := 69) rfl (by decide) rfl
        have b57 : 0 ≤ v49 ∧ v49 ≤ 902 := by
          rw [← e50]
          exact I39.int gA0 (by decide) (n := 69) rfl (by decide) rfl
        clear h32 h33
        show ex_q (dt_fg L ρ) rc (d + 7, (352, 68, [some (eR a0), some (eI (v1)), some (eI (pl)), none, none, none, none, none, none, none], [eI (v41)]), f :: F, m38)
        refine w_t (np := 69) (l2 := [some (eR a0), some (eI (v1)), some (eI (pl)), some (eI (v41)), none, none, none, none, none, none]) (s2 := []) rfl rfl rfl ?_
        refine w_t (np := 70) (l2 := [some (eR a0), some (eI (v1)), some (eI (pl)), some (eI (v41)), none, none, none, none, none, none]) (s2 := [eR a0]) rfl (s_an rfl (pos_g I39 gA0 (by decide))) rfl ?_
        refine w_cw (np := 73) (as := []) (l2 := [some (eR a0), none, none]) (rest := []) rfl rfl rfl (Nat.ble_eq.mp rfl) rfl rfl rfl (I39.kd gA0 (by decide) (n := 69) rfl) rfl ?_
        refine s_351 I39 gA0 e44 e46 e48 e50 (by omega) (by omega) ?_
        intro m58 v61 v63 v65 v67 v69 I59 F60 b62 e64 e66 e68 e70 h71 h72
        have F73 : Fr l_352 0 0 g μ m58 := F53.t F60 rfl
        have b74 : 0 ≤ v63 ∧ v63 ≤ 8 := by
          rw [← e64]
          exact I59.int gA0 (by decide) (n := 69) rfl (by decide) rfl
        have b75 : -2147483648 ≤ v65 ∧ v65 ≤ 2147483647 := by
          rw [← e66]
          exact I59.int gA0 (by decide) (n := 69) rfl (by decide) rfl
        have b76 : 0 ≤ v67 ∧ v67 ≤ 902 := by
          rw [← e68]
          exact I59.int gA0 (by decide) (n := 69) rfl (by decide) rfl
        have b77 : 0 ≤ v69 ∧ v69 ≤ 902 := by
          rw [← e70]
          exact I59.int gA0 (by decide) (n := 69) rfl (by decide) rfl
        clear h51 h52
        show ex_q (dt_fg L ρ) rc (d + 7, (352, 73, [some (eR a0), some (eI (v1)), some (eI (pl)), some (eI (v41)), none, none, none, none, none, none], [eI (v61)]), f :: F, m58)
        refine w_t (np := 75) (l2 := [some (eR a0), some (eI (v1)), some (eI (pl)), some (eI (v41)), some (eI (v61)), none, none, none, none, none]) (s2 := []) rfl rfl rfl ?_
        refine w_t (np := 76) (l2 := [some (eR a0), some (eI (v1)), some (eI (pl)), some (eI (v41)), some (eI (v61)), none, none, none, none, none]) (s2 := [eR a0]) rfl (s_an rfl (pos_g I59 gA0 (by decide))) rfl ?_
        refine w_cw (np := 79) (as := []) (l2 := [some (eR a0), none, none]) (rest := []) rfl rfl rfl (Nat.ble_eq.mp rfl) rfl rfl rfl (I59.kd gA0 (by decide) (n := 69) rfl) rfl ?_
        refine s_351 I59 gA0 e64 e66 e68 e70 (by omega) (by omega) ?_
        intro m78 v81 v83 v85 v87 v89 I79 F80 b82 e84 e86 e88 e90 h91 h92
        have F93 : Fr l_352 0 0 g μ m78 := F73.t F80 rfl
        have b94 : 0 ≤ v83 ∧ v83 ≤ 8 := by
          rw [← e84]
          exact I79.int gA0 (by decide) (n := 69) rfl (by decide) rfl
        have b95 : -2147483648 ≤ v85 ∧ v85 ≤ 2147483647 := by
          rw [← e86]
          exact I79.int gA0 (by decide) (n := 69) rfl (by decide) rfl
        have b96 : 0 ≤ v87 ∧ v87 ≤ 902 := by
          rw [← e88]
          exact I79.int gA0 (by decide) (n := 69) rfl (by decide) rfl
        have b97 : 0 ≤ v89 ∧ v89 ≤ 902 := by
          rw [← e90]
          exact I79.int gA0 (by decide) (n := 69) rfl (by decide) rfl
        clear h71 h72
        show ex_q (dt_fg L ρ) rc (d + 7, (352, 79, [some (eR a0), some (eI (v1)), some (eI (pl)), some (eI (v41)), some (eI (v61)), none, none, none, none, none], [eI (v81)]), f :: F, m78)
        refine w_t (np := 81) (l2 := [some (eR a0), some (eI (v1)), some (eI (pl)), some (eI (v41)), some (eI (v61)), some (eI (v81)), none, none, none, none]) (s2 := []) rfl rfl rfl ?_
        refine w_t (np := 82) (l2 := [some (eR a0), some (eI (v1)), some (eI (pl)), some (eI (v41)), some (eI (v61)), some (eI (v81)), none, none, none, none]) (s2 := [eR a0]) rfl (s_an rfl (pos_g I79 gA0 (by decide))) rfl ?_
        refine w_cw (np := 85) (as := []) (l2 := [some (eR a0), none, none]) (rest := []) rfl rfl rfl (Nat.ble_eq.mp rfl) rfl rfl rfl (I79.kd gA0 (by decide) (n := 69) rfl) rfl ?_
        refine s_351 I79 gA0 e84 e86 e88 e90 (by omega) (by omega) ?_
        intro m98 v101 v103 v105 v107 v109 I99 F100 b102 e104 e106 e108 e110 h111 h112
        have F113 : Fr l_352 0 0 g μ m98 := F93.t F100 rfl
        have b114 : 0 ≤ v103 ∧ v103 ≤ 8 := by
          rw [← e104]
          exact I99.int gA0 (by decide) (n := 69) rfl (by decide) rfl
        have b115 : -2147483648 ≤ v105 ∧ v105 ≤ 2147483647 := by
          rw [← e106]
          exact I99.int gA0 (by decide) (n := 69) rfl (by decide) rfl
        have b116 : 0 ≤ v107 ∧ v107 ≤ 902 := by
          rw [← e108]
          exact I99.int gA0 (by decide) (n := 69) rfl (by decide) rfl
        have b117 : 0 ≤ v109 ∧ v109 ≤ 902 := by
          rw [← e110]
          exact I99.int gA0 (by decide) (n := 69) rfl (by decide) rfl
        clear h91 h92
        show ex_q (dt_fg L ρ) rc (d + 7, (352, 85, [some (eR a0), some (eI (v1)), some (eI (pl)), some (eI (v41)), some (eI (v61)), some (eI (v81)), none, none, none, none], [eI (v101)]), f :: F, m98)
        refine w_t (np := 87) (l2 := [some (eR a0), some (eI (v1)), some (eI (pl)), some (eI (v41)), some (eI (v61)), some (eI (v81)), some (eI (v101)), none, none, none]) (s2 := []) rfl rfl rfl ?_
        refine w_t (np := 88) (l2 := [some (eR a0), some (eI (v1)), some (eI (pl)), some (eI (v41)), some (eI (v61)), some (eI (v81)), some (eI (v101)), none, none, none]) (s2 := [eR a0]) rfl (s_an rfl (pos_g I99 gA0 (by decide))) rfl ?_
        refine w_t (np := 89) (l2 := [some (eR a0), some (eI (v1)), some (eI (pl)), some (eI (v41)), some (eI (v61)), some (eI (v81)), some (eI (v101)), none, none, none]) (s2 := [eR a0, eR a0]) rfl (s_an rfl (pos_g I99 gA0 (by decide))) rfl ?_
        refine w_t (np := 90) (l2 := [some (eR a0), some (eI (v1)), some (eI (pl)), some (eI (v41)), some (eI (v61)), some (eI (v81)), some (eI (v101)), none, none, none]) (s2 := [eI (2), eR a0, eR a0]) rfl rfl rfl ?_
        refine w_cw (np := 93) (as := [eI (2)]) (l2 := [some (eR a0), some (eI (2))]) (rest := [eR a0]) rfl rfl rfl (Nat.ble_eq.mp rfl) rfl rfl rfl (I99.kd gA0 (by decide) (n := 69) rfl) rfl ?_
        refine s_347 (a1 := 2) I99 gA0 (by decide) e104 e106 ?_
        intro v118 b119 h120
        show ex_q (dt_fg L ρ) rc (d + 7, (352, 93, [some (eR a0), some (eI (v1)), some (eI (pl)), some (eI (v41)), some (eI (v61)), some (eI (v81)), some (eI (v101)), none, none, none], [eI (v118), eR a0]), f :: F, m98)
        refine w_cw (np := 96) (as := [eI (v118)]) (l2 := [some (eR a0), some (eI (v118))]) (rest := []) rfl rfl rfl (Nat.ble_eq.mp rfl) rfl rfl rfl (I99.kd gA0 (by decide) (n := 69) rfl) rfl ?_
        refine s_349 (a1 := v118) I99 gA0 (by omega) e104 e106 e108 e110 (by omega) (by omega) (by omega) ?_
        intro m121 v124 v126 v128 v130 I122 F123 e125 e127 e129 e131 h132 h133
        have F134 : Fr l_352 0 0 g μ m121 := F113.t F123 rfl
        have b135 : 0 ≤ v124 ∧ v124 ≤ 8 := by
          rw [← e125]
          exact I122.int gA0 (by decide) (n := 69) rfl (by decide) rfl
        have b136 : -2147483648 ≤ v126 ∧ v126 ≤ 2147483647 := by
          rw [← e127]
          exact I122.int gA0 (by decide) (n := 69) rfl (by decide) rfl
        have b137 : 0 ≤ v128 ∧ v128 ≤ 902 := by
          rw [← e129]
          exact I122.int gA0 (by decide) (n := 69) rfl (by decide) rfl
        have b138 : 0 ≤ v130 ∧ v130 ≤ 902 := by
          rw [← e131]
          exact I122.int gA0 (by decide) (n := 69) rfl (by decide) rfl
        clear h111 h112
        show ex_q (dt_fg L ρ) rc (d + 7, (352, 96, [some (eR a0), some (eI (v1)), some (eI (pl)), some (eI (v41)), some (eI (v61)), some (eI (v81)), some (eI (v101)), none, none, none], []), f :: F, m121)
        refine w_t (np := 97) (l2 := [some (eR a0), some (eI (v1)), some (eI (pl)), some (eI (v41)), some (eI (v61)), some (eI (v81)), some (eI (v101)), none, none, none]) (s2 := [eR a0]) rfl (s_an rfl (pos_g I122 gA0 (by decide))) rfl ?_
        refine w_t (np := 99) (l2 := [some (eR a0), some (eI (v1)), some (eI (pl)), some (eI (v41)), some (eI (v61)), some (eI (v81)), some (eI (v101)), none, none, none]) (s2 := [eI (9), eR a0]) rfl rfl rfl ?_
        refine w_cw (np := 102) (as := [eI (9)]) (l2 := [some (eR a0), some (eI (9)), none]) (rest := []) rfl rfl rfl (Nat.ble_eq.mp rfl) rfl rfl rfl (I122.kd gA0 (by decide) (n := 69) rfl) rfl ?_
        refine s_350 (a1 := 9) I122 gA0 (by decide) e125 e127 e129 e131 (by omega) (by omega) ?_
        intro m139 v142 v144 v146 v148 v150 I140 F141 b143 e145 e147 e149 e151 h152 h153
        have F154 : Fr l_352 0 0 g μ m139 := F134.t F141 rfl
        have b155 : 0 ≤ v144 ∧ v144 ≤ 8 := by
          rw [← e145]
          exact I140.int gA0 (by decide) (n := 69) rfl (by decide) rfl
        have b156 : -2147483648 ≤ v146 ∧ v146 ≤ 2147483647 := by
          rw [← e147]
          exact I140.int gA0 (by decide) (n := 69) rfl (by decide) rfl
        have b157 : 0 ≤ v148 ∧ v148 ≤ 902 := by
          rw [← e149]
          exact I140.int gA0 (by decide) (n := 69) rfl (by decide) rfl
        have b158 : 0 ≤ v150 ∧ v150 ≤ 902 := by
          rw [← e151]
          exact I140.int gA0 (by decide) (n := 69) rfl (by decide) rfl
        clear h132 h133
        show ex_q (dt_fg L ρ) rc (d + 7, (352, 102, [some (eR a0), some (eI (v1)), some (eI (pl)), some (eI (v41)), some (eI (v61)), some (eI (v81)), some (eI (v101)), none, none, none], [eI (v142)]), f :: F, m139)
        refine w_t (np := 104) (l2 := [some (eR a0), some (eI (v1)), some (eI (pl)), some (eI (v41)), some (eI (v61)), some (eI (v81)), some (eI (v101)), some (eI (v142)), none, none]) (s2 := []) rfl rfl rfl ?_
        refine w_t (np := 105) (l2 := [some (eR a0), some (eI (v1)), some (eI (pl)), some (eI (v41)), some (eI (v61)), some (eI (v81)), some (eI (v101)), some (eI (v142)), none, none]) (s2 := [eR a0]) rfl (s_an rfl (pos_g I140 gA0 (by decide))) rfl ?_
        refine w_t (np := 106) (l2 := [some (eR a0), some (eI (v1)), some (eI (pl)), some (eI (v41)), some (eI (v61)), some (eI (v81)), some (eI (v101)), some (eI (v142)), none, none]) (s2 := [eR a0, eR a0]) rfl (s_an rfl (pos_g I140 gA0 (by decide))) rfl ?_
        refine w_t (np := 107) (l2 := [some (eR a0), some (eI (v1)), some (eI (pl)), some (eI (v41)), some (eI (v61)), some (eI (v81)), some (eI (v101)), some (eI (v142)), none, none]) (s2 := [eI (3), eR a0, eR a0]) rfl rfl rfl ?_
        refine w_cw (np := 110) (as := [eI (3)]) (l2 := [some (eR a0), some (eI (3))]) (rest := [eR a0]) rfl rfl rfl (Nat.ble_eq.mp rfl) rfl rfl rfl (I140.kd gA0 (by decide) (n := 69) rfl) rfl ?_
        refine s_347 (a1 := 3) I140 gA0 (by decide) e145 e147 ?_
        intro v159 b160 h161
        show ex_q (dt_fg L ρ) rc (d + 7, (352, 110, [some (eR a0), some (eI (v1)), some (eI (pl)), some (eI (v41)), some (eI (v61)), some (eI (v81)), some (eI (v101)), some (eI (v142)), none, none], [eI (v159), eR a0]), f :: F, m139)
        refine w_cw (np := 113) (as := [eI (v159)]) (l2 := [some (eR a0), some (eI (v159))]) (rest := []) rfl rfl rfl (Nat.ble_eq.mp rfl) rfl rfl rfl (I140.kd gA0 (by decide) (n := 69) rfl) rfl ?_
        refine s_349 (a1 := v159) I140 gA0 (by omega) e145 e147 e149 e151 (by omega) (by omega) (by omega) ?_
        intro m162 v165 v167 v169 v171 I163 F164 e166 e168 e170 e172 h173 h174
        have F175 : Fr l_352 0 0 g μ m162 := F154.t F164 rfl
        have b176 : 0 ≤ v165 ∧ v165 ≤ 8 := by
          rw [← e166]
          exact I163.int gA0 (by decide) (n := 69) rfl (by decide) rfl
        have b177 : -2147483648 ≤ v167 ∧ v167 ≤ 2147483647 := by
          rw [← e168]
          exact I163.int gA0 (by decide) (n := 69) rfl (by decide) rfl
        have b178 : 0 ≤ v169 ∧ v169 ≤ 902 := by
          rw [← e170]
          exact I163.int gA0 (by decide) (n := 69) rfl (by decide) rfl
        have b179 : 0 ≤ v171 ∧ v171 ≤ 902 := by
          rw [← e172]
          exact I163.int gA0 (by decide) (n := 69) rfl (by decide) rfl
        clear h152 h153
        show ex_q (dt_fg L ρ) rc (d + 7, (352, 113, [some (eR a0), some (eI (v1)), some (eI (pl)), some (eI (v41)), some (eI (v61)), some (eI (v81)), some (eI (v101)), some (eI (v142)), none, none], []), f :: F, m162)
        refine w_t (np := 114) (l2 := [some (eR a0), some (eI (v1)), some (eI (pl)), some (eI (v41)), some (eI (v61)), some (eI (v81)), some (eI (v101)), some (eI (v142)), none, none]) (s2 := [eR a0]) rfl (s_an rfl (pos_g I163 gA0 (by decide))) rfl ?_
        refine w_t (np := 115) (l2 := [some (eR a0), some (eI (v1)), some (eI (pl)), some (eI (v41)), some (eI (v61)), some (eI (v81)), some (eI (v101)), some (eI (v142)), none, none]) (s2 := [eI (1), eR a0]) rfl rfl rfl ?_
        refine w_cw (np := 118) (as := [eI (1)]) (l2 := [some (eR a0), some (eI (1)), none]) (rest := []) rfl rfl rfl (Nat.ble_eq.mp rfl) rfl rfl rfl (I163.kd gA0 (by decide) (n := 69) rfl) rfl ?_
        refine s_350 (a1 := 1) I163 gA0 (by decide) e166 e168 e170 e172 (by omega) (by omega) ?_
        intro m180 v183 v185 v187 v189 v191 I181 F182 b184 e186 e188 e190 e192 h193 h194
        have F195 : Fr l_352 0 0 g μ m180 := F175.t F182 rfl
        have b196 : 0 ≤ v185 ∧ v185 ≤ 8 := by
          rw [← e186]
          exact I181.int gA0 (by decide) (n := 69) rfl (by decide) rfl
        have b197 : -2147483648 ≤ v187 ∧ v187 ≤ 2147483647 := by
          rw [← e188]
          exact I181.int gA0 (by decide) (n := 69) rfl (by decide) rfl
        have b198 : 0 ≤ v189 ∧ v189 ≤ 902 := by
          rw [← e190]
          exact I181.int gA0 (by decide) (n := 69) rfl (by decide) rfl
        have b199 : 0 ≤ v191 ∧ v191 ≤ 902 := by
          rw [← e192]
          exact I181.int gA0 (by decide) (n := 69) rfl (by decide) rfl
        clear h173 h174
        show ex_q (dt_fg L ρ) rc (d + 7, (352, 118, [some (eR a0), some (eI (v1)), some (eI (pl)), some (eI (v41)), some (eI (v61)), some (eI (v81)), some (eI (v101)), some (eI (v142)), none, none], [eI (v183)]), f :: F, m180)
        refine w_t (np := 120) (l2 := [some (eR a0), some (eI (v1)), some (eI (pl)), some (eI (v41)), some (eI (v61)), some (eI (v81)), some (eI (v101)), some (eI (v142)), some (eI (v183)), none]) (s2 := []) rfl rfl rfl ?_
        refine w_t (np := 121) (l2 := [some (eR a0), some (eI (v1)), some (eI (pl)), some (eI (v41)), some (eI (v61)), some (eI (v81)), some (eI (v101)), some (eI (v142)), some (eI (v183)), none]) (s2 := [eR a0]) rfl (s_an rfl (pos_g I181 gA0 (by decide))) rfl ?_
        refine w_t (np := 122) (l2 := [some (eR a0), some (eI (v1)), some (eI (pl)), some (eI (v41)), some (eI (v61)), some (eI (v81)), some (eI (v101)), some (eI (v142)), some (eI (v183)), none]) (s2 := [eR a0, eR a0]) rfl (s_an rfl (pos_g I181 gA0 (by decide))) rfl ?_
        refine w_t (np := 124) (l2 := [some (eR a0), some (eI (v1)), some (eI (pl)), some (eI (v41)), some (eI (v61)), some (eI (v81)), some (eI (v101)), some (eI (v142)), some (eI (v183)), none]) (s2 := [eI (59), eR a0, eR a0]) rfl rfl rfl ?_
        refine w_cw (np := 127) (as := [eI (59)]) (l2 := [some (eR a0), some (eI (59))]) (rest := [eR a0]) rfl rfl rfl (Nat.ble_eq.mp rfl) rfl rfl rfl (I181.kd gA0 (by decide) (n := 69) rfl) rfl ?_
        refine s_348 (a1 := 59) I181 gA0 (by decide) e186 e188 e190 (by omega) ?_
        intro v200 b201 h202
        show ex_q (dt_fg L ρ) rc (d + 7, (352, 127, [some (eR a0), some (eI (v1)), some (eI (pl)), some (eI (v41)), some (eI (v61)), some (eI (v81)), some (eI (v101)), some (eI (v142)), some (eI (v183)), none], [eI (v200), eR a0]), f :: F, m180)
        refine w_t (np := 128) (l2 := [some (eR a0), some (eI (v1)), some (eI (pl)), some (eI (v41)), some (eI (v61)), some (eI (v81)), some (eI (v101)), some (eI (v142)), some (eI (v183)), none]) (s2 := [eI (2), eI (v200), eR a0]) rfl rfl rfl ?_
        refine w_cw (np := 131) (as := [eI (v200), eI (2)]) (l2 := [some (eR a0), some (eI (v200)), some (eI (2))]) (rest := []) rfl rfl rfl (Nat.ble_eq.mp rfl) rfl rfl rfl (I181.kd gA0 (by decide) (n := 69) rfl) rfl ?_
        refine s_346 (a1 := v200) (a2 := 2) I181 gA0 (by omega) (by decide) e186 ?_
        intro m203 v206 I204 F205 e207 h208
        have F209 : Fr l_352 0 0 g μ m203 := F195.t F205 rfl
        have b210 : 0 ≤ v206 ∧ v206 ≤ 8 := by
          rw [← e207]
          exact I204.int gA0 (by decide) (n := 69) rfl (by decide) rfl
        show ex_q (dt_fg L ρ) rc (d + 7, (352, 131, [some (eR a0), some (eI (v1)), some (eI (pl)), some (eI (v41)), some (eI (v61)), some (eI (v81)), some (eI (v101)), some (eI (v142)), some (eI (v183)), none], []), f :: F, m203)
        refine w_t (np := 132) (l2 := [some (eR a0), some (eI (v1)), some (eI (pl)), some (eI (v41)), some (eI (v61)), some (eI (v81)), some (eI (v101)), some (eI (v142)), some (eI (v183)), none]) (s2 := [eR a0]) rfl (s_an rfl (pos_g I204 gA0 (by decide))) rfl ?_
        refine w_gf (np := 135) (v := eI (v206)) rfl rfl (I204.kd gA0 (by decide) (n := 69) rfl) (by rw [e207]; rfl) ?_
        refine b_ile (t1 := 139) (t2 := 138) rfl rfl rfl (ev_w_in (by omega) (by omega)) (fun g211 => ?_) (fun g211 => ?_)
        · have b212 : 0 ≤ v206 ∧ v206 ≤ 0 := by omega
          refine w_t (np := 140) (l2 := [some (eR a0), some (eI (v1)), some (eI (pl)), some (eI (v41)), some (eI (v61)), some (eI (v81)), some (eI (v101)), some (eI (v142)), some (eI (v183)), none]) (s2 := [eR a0]) rfl (s_an rfl (pos_g I204 gA0 (by decide))) rfl ?_
          refine w_t (np := 141) (l2 := [some (eR a0), some (eI (v1)), some (eI (pl)), some (eI (v41)), some (eI (v61)), some (eI (v81)), some (eI (v101)), some (eI (v142)), some (eI (v183)), none]) (s2 := [eI (v1), eR a0]) rfl rfl rfl ?_
          refine b_ieq (t1 := 148) (t2 := 144) rfl rfl rfl (ev_w_in (by omega) (by omega)) (fun g212 => False.elim (by omega)) (fun g212 => ?_)
          refine w_t (np := 145) (l2 := [some (eR a0), some (eI (v1)), some (eI (pl)), some (eI (v41)), some (eI (v61)), some (eI (v81)), some (eI (v101)), some (eI (v142)), some (eI (v183)), none]) (s2 := [eI (1), eR a0]) rfl rfl rfl ?_
          refine w_go (t1 := 149) rfl rfl ?_
          refine w_t (np := 150) (l2 := [some (eR a0), some (eI (v1)), some (eI (pl)), some (eI (v41)), some (eI (v61)), some (eI (v81)), some (eI (v101)), some (eI (v142)), some (eI (v183)), none]) (s2 := [eI (v41), eI (1), eR a0]) rfl rfl rfl ?_
          refine w_t (np := 152) (l2 := [some (eR a0), some (eI (v1)), some (eI (pl)), some (eI (v41)), some (eI (v61)), some (eI (v81)), some (eI (v101)), some (eI (v142)), some (eI (v183)), none]) (s2 := [eI (v61), eI (v41), eI (1), eR a0]) rfl rfl rfl ?_
          refine w_t (np := 154) (l2 := [some (eR a0), some (eI (v1)), some (eI (pl)), some (eI (v41)), some (eI (v61)), some (eI (v81)), some (eI (v101)), some (eI (v142)), some (eI (v183)), none]) (s2 := [eI (v81), eI (v61), eI (v41), eI (1), eR a0]) rfl rfl rfl ?_
          refine w_t (np := 156) (l2 := [some (eR a0), some (eI (v1)), some (eI (pl)), some (eI (v41)), some (eI (v61)), some (eI (v81)), some (eI (v101)), some (eI (v142)), some (eI (v183)), none]) (s2 := [eI (v101), eI (v81), eI (v61), eI (v41), eI (1), eR a0]) rfl rfl rfl ?_
          refine w_t (np := 158) (l2 := [some (eR a0), some (eI (v1)), some (eI (pl)), some (eI (v41)), some (eI (v61)), some (eI (v81)), some (eI (v101)), some (eI (v142)), some (eI (v183)), none]) (s2 := [eI (v142), eI (v101), eI (v81), eI (v61), eI (v41), eI (1), eR a0]) rfl rfl rfl ?_
          refine w_t (np := 160) (l2 := [some (eR a0), some (eI (v1)), some (eI (pl)), some (eI (v41)), some (eI (v61)), some (eI (v81)), some (eI (v101)), some (eI (v142)), some (eI (v183)), none]) (s2 := [eI (v183), eI (v142), eI (v101), eI (v81), eI (v61), eI (v41), eI (1), eR a0]) rfl rfl rfl ?_
          refine w_cw (np := 163) (as := [eI (1), eI (v41), eI (v61), eI (v81), eI (v101), eI (v142), eI (v183)]) (l2 := [some (eR a0), some (eI (1)), some (eI (v41)), some (eI (v61)), some (eI (v81)), some (eI (v101)), some (eI (v142)), some (eI (v183)), none]) (rest := []) rfl rfl rfl (Nat.ble_eq.mp rfl) rfl rfl rfl (I204.kd gA0 (by decide) (n := 69) rfl) rfl ?_
          refine s_312 (a1 := 1) (a2 := v41) (a3 := v61) (a4 := v81) (a5 := v101) (a6 := v142) (a7 := v183) I204 gA0 (by decide) (by omega) (by omega) (by omega) (by omega) (by omega) (by omega) (F205.k (F182.k (F164.k (F141.k (F123.k (F100.k (F80.k (F60.k (F40.k (F25.k (F16.k (F7.k h_rh gA0 (by decide) rfl) gA0 (by decide) rfl) gA0 (by decide) rfl) gA0 (by decide) rfl) gA0 (by decide) rfl) gA0 (by decide) rfl) gA0 (by decide) rfl) gA0 (by decide) rfl) gA0 (by decide) rfl) gA0 (by decide) rfl) gA0 (by decide) rfl) gA0 (by decide) rfl) (by omega) ?_
          intro m213 v216 I214 F215 e217 h218
          have F219 : Fr l_352 0 0 g μ m213 := F209.t F215 rfl
          have b220 : 0 ≤ v216 ∧ v216 ≤ 24 := by
            rw [← e217]
            exact I214.int gA0 (by decide) (n := 69) rfl (by decide) rfl
          show ex_q (dt_fg L ρ) rc (d + 7, (352, 163, [some (eR a0), some (eI (v1)), some (eI (pl)), some (eI (v41)), some (eI (v61)), some (eI (v81)), some (eI (v101)), some (eI (v142)), some (eI (v183)), none], []), f :: F, m213)
          refine w_t (np := 164) (l2 := [some (eR a0), some (eI (v1)), some (eI (pl)), some (eI (v41)), some (eI (v61)), some (eI (v81)), some (eI (v101)), some (eI (v142)), some (eI (v183)), none]) (s2 := [eR a0]) rfl (s_an rfl (pos_g I214 gA0 (by decide))) rfl ?_
          refine w_cw (np := 167) (as := []) (l2 := [some (eR a0), none, none, none, none]) (rest := []) rfl rfl rfl (Nat.ble_eq.mp rfl) rfl rfl rfl (I214.kd gA0 (by decide) (n := 69) rfl) rfl ?_
          refine s_311 I214 gA0 e217 (by omega) ?_
          intro m221 v224 v226 I222 F223 b225 e227 h228
          have F229 : Fr l_352 0 0 g μ m221 := F219.t F223 rfl
          have b230 : 0 ≤ v226 ∧ v226 ≤ 24 := by
            rw [← e227]
            exact I222.int gA0 (by decide) (n := 69) rfl (by decide) rfl
          show ex_q (dt_fg L ρ) rc (d + 7, (352, 167, [some (eR a0), some (eI (v1)), some (eI (pl)), some (eI (v41)), some (eI (v61)), some (eI (v81)), some (eI (v101)), some (eI (v142)), some (eI (v183)), none], [eI (v224)]), f :: F, m221)
          refine w_t (np := 169) (l2 := [some (eR a0), some (eI (v1)), some (eI (pl)), some (eI (v41)), some (eI (v61)), some (eI (v81)), some (eI (v101)), some (eI (v142)), some (eI (v183)), some (eI (v224))]) (s2 := []) rfl rfl rfl ?_
          refine w_t (np := 171) (l2 := [some (eR a0), some (eI (v1)), some (eI (pl)), some (eI (v41)), some (eI (v61)), some (eI (v81)), some (eI (v101)), some (eI (v142)), some (eI (v183)), some (eI (v224))]) (s2 := [eI (v224)]) rfl rfl rfl ?_
          refine b_ile (t1 := 186) (t2 := 174) rfl rfl rfl (ev_w_in (by omega) (by omega)) (fun g231 => ?_) (fun g231 => ?_)
          · have b232 : 0 ≤ v224 ∧ v224 ≤ 0 := by omega
            refine w_t (np := 187) (l2 := [some (eR a0), some (eI (v1)), some (eI (pl)), some (eI (v41)), some (eI (v61)), some (eI (v81)), some (eI (v101)), some (eI (v142)), some (eI (v183)), some (eI (v224))]) (s2 := [eR a0]) rfl (s_an rfl (pos_g I222 gA0 (by decide))) rfl ?_
            refine w_t (np := 188) (l2 := [some (eR a0), some (eI (v1)), some (eI (pl)), some (eI (v41)), some (eI (v61)), some (eI (v81)), some (eI (v101)), some (eI (v142)), some (eI (v183)), some (eI (v224))]) (s2 := [eR a0, eR a0]) rfl rfl rfl ?_
            refine w_gf (np := 191) (v := eI (v226)) rfl rfl (I222.kd gA0 (by decide) (n := 69) rfl) (by rw [e227]; rfl) ?_
            refine w_t (np := 192) (l2 := [some (eR a0), some (eI (v1)), some (eI (pl)), some (eI (v41)), some (eI (v61)), some (eI (v81)), some (eI (v101)), some (eI (v142)), some (eI (v183)), some (eI (v224))]) (s2 := [eI (1), eI (v226), eR a0]) rfl rfl rfl ?_
            obtain ⟨v232, e233⟩ : ∃ zz : Int, zz = (v226) + (1) := ⟨_, rfl⟩
            have b234 : 1 ≤ v232 ∧ v232 ≤ 25 := by omega
            refine w_t (np := 193) (l2 := [some (eR a0), some (eI (v1)), some (eI (pl)), some (eI (v41)), some (eI (v61)), some (eI (v81)), some (eI (v101)), some (eI (v142)), some (eI (v183)), some (eI (v224))]) (s2 := [eI (v232), eR a0]) rfl (b_iadd (by rw [← e233]; exact ev_w_in (by omega) (by omega))) rfl ?_
            refine j_pf (np := 196) (w := v232) rfl rfl I222 gA0 (by decide) (n := 69) rfl rfl (hO_i (lo := 0) (hi := 24) rfl (by omega)) ?_
            intro m235 I236 W237
            have F238 : Fr l_352 0 0 g μ m235 := F229.w W237 gA0 rfl
            refine w_t (np := 197) (l2 := [some (eR a0), some (eI (v1)), some (eI (pl)), some (eI (v41)), some (eI (v61)), some (eI (v81)), some (eI (v101)), some (eI (v142)), some (eI (v183)), some (eI (v224))]) (s2 := [eR a0]) rfl (s_an rfl (pos_g I236 gA0 (by decide))) rfl ?_
            refine w_cw (np := 200) (as := []) (l2 := [some (eR a0)]) (rest := []) rfl rfl rfl (Nat.ble_eq.mp rfl) rfl rfl rfl (I236.kd gA0 (by decide) (n := 69) rfl) rfl ?_
            refine s_345 I236 gA0 (W237.slot (F223.k (F215.k (F205.k e188 gA0 (by decide) rfl) gA0 (by decide) rfl) gA0 (by decide) rfl) (by decide)) (W237.slot (F223.k (F215.k (F205.k e190 gA0 (by decide) rfl) gA0 (by decide) rfl) gA0 (by decide) rfl) (by decide)) (W237.slot (F223.k (F215.k (F205.k e192 gA0 (by decide) rfl) gA0 (by decide) rfl) gA0 (by decide) rfl) (by decide)) (by omega) ?_
            intro m239 v242 v244 v246 I240 F241 e243 e245 e247 h248 h249
            have F250 : Fr l_352 0 0 g μ m239 := F238.t F241 rfl
            have b251 : -2147483648 ≤ v242 ∧ v242 ≤ 2147483647 := by
              rw [← e243]
              exact I240.int gA0 (by decide) (n := 69) rfl (by decide) rfl
            have b252 : 0 ≤ v244 ∧ v244 ≤ 902 := by
              rw [← e245]
              exact I240.int gA0 (by decide) (n := 69) rfl (by decide) rfl
            have b253 : 0 ≤ v246 ∧ v246 ≤ 902 := by
              rw [← e247]
              exact I240.int gA0 (by decide) (n := 69) rfl (by decide) rfl
            clear h193 h194
            show ex_q (dt_fg L ρ) rc (d + 7, (352, 200, [some (eR a0), some (eI (v1)), some (eI (pl)), some (eI (v41)), some (eI (v61)), some (eI (v81)), some (eI (v101)), some (eI (v142)), some (eI (v183)), some (eI (v224))], []), f :: F, m239)
            exact v_rv rfl rfl (K m239 (v206) (v242) (v244) (v246) (v232) I240 F250 (F241.k (W237.slot (F223.k (F215.k e207 gA0 (by decide) rfl) gA0 (by decide) rfl) (by decide)) gA0 (by decide) rfl) e243 e245 e247 (F241.k W237.at gA0 (by decide) rfl) (by omega) (by omega) (by omega))
          · have b232 : 1 ≤ v224 ∧ v224 ≤ 7 := by omega
            refine w_t (np := 175) (l2 := [some (eR a0), some (eI (v1)), some (eI (pl)), some (eI (v41)), some (eI (v61)), some (eI (v81)), some (eI (v101)), some (eI (v142)), some (eI (v183)), some (eI (v224))]) (s2 := [eR a0]) rfl (s_an rfl (pos_g I222 gA0 (by decide))) rfl ?_
            refine w_t (np := 177) (l2 := [some (eR a0), some (eI (v1)), some (eI (pl)), some (eI (v41)), some (eI (v61)), some (eI (v81)), some (eI (v101)), some (eI (v142)), some (eI (v183)), some (eI (v224))]) (s2 := [eI (v224), eR a0]) rfl rfl rfl ?_
            refine j_pf (np := 180) (w := v224) rfl rfl I222 gA0 (by decide) (n := 69) rfl rfl (hO_i (lo := 0) (hi := 8) rfl (by omega)) ?_
            intro m232 I233 W234
            have F235 : Fr l_352 0 0 g μ m232 := F229.w W234 gA0 rfl
            refine w_t (np := 181) (l2 := [some (eR a0), some (eI (v1)), some (eI (pl)), some (eI (v41)), some (eI (v61)), some (eI (v81)), some (eI (v101)), some (eI (v142)), some (eI (v183)), some (eI (v224))]) (s2 := [eR a0]) rfl (s_an rfl (pos_g I233 gA0 (by decide))) rfl ?_
            refine w_t (np := 182) (l2 := [some (eR a0), some (eI (v1)), some (eI (pl)), some (eI (v41)), some (eI (v61)), some (eI (v81)), some (eI (v101)), some (eI (v142)), some (eI (v183)), some (eI (v224))]) (s2 := [eI (pl), eR a0]) rfl rfl rfl ?_
            refine j_pf (np := 185) (w := pl) rfl rfl I233 gA0 (by decide) (n := 69) rfl rfl (hO_i (lo := -2147483648) (hi := 2147483647) rfl (by omega)) ?_
            intro m236 I237 W238
            have F239 : Fr l_352 0 0 g μ m236 := F235.w W238 gA0 rfl
            exact v_rv rfl rfl (K m236 (v224) (v187) (v189) (v191) (v226) I237 F239 (W238.slot W234.at (by decide)) (W238.slot (W234.slot (F223.k (F215.k (F205.k e188 gA0 (by decide) rfl) gA0 (by decide) rfl) gA0 (by decide) rfl) (by decide)) (by decide)) (W238.slot (W234.slot (F223.k (F215.k (F205.k e190 gA0 (by decide) rfl) gA0 (by decide) rfl) gA0 (by decide) rfl) (by decide)) (by decide)) (W238.slot (W234.slot (F223.k (F215.k (F205.k e192 gA0 (by decide) rfl) gA0 (by decide) rfl) gA0 (by decide) rfl) (by decide)) (by decide)) (W238.slot (W234.slot e227 (by decide)) (by decide)) (by omega) (by omega) (by omega))
        · have b212 : 1 ≤ v206 ∧ v206 ≤ 8 := by omega
          exact v_rv rfl rfl (K m203 (v206) (v187) (v189) (v191) (rh) I204 F209 e207 (F205.k e188 gA0 (by decide) rfl) (F205.k e190 gA0 (by decide) rfl) (F205.k e192 gA0 (by decide) rfl) (F205.k (F182.k (F164.k (F141.k (F123.k (F100.k (F80.k (F60.k (F40.k (F25.k (F16.k (F7.k h_rh gA0 (by decide) rfl) gA0 (by decide) rfl) gA0 (by decide) rfl) gA0 (by decide) rfl) gA0 (by decide) rfl) gA0 (by decide) rfl) gA0 (by decide) rfl) gA0 (by decide) rfl) gA0 (by decide) rfl) gA0 (by decide) rfl) gA0 (by decide) rfl) gA0 (by decide) rfl) (by omega) (by omega) (by omega))
      · have b23 : 1 ≤ v17 ∧ v17 ≤ 8 := by omega
        exact v_rv rfl rfl (K m14 (v17) (so) (pl) (th) (rh) I15 F20 e18 (F16.k (F7.k h_so gA0 (by decide) rfl) gA0 (by decide) rfl) (F16.k (F7.k h_pl gA0 (by decide) rfl) gA0 (by decide) rfl) (F16.k (F7.k h_th gA0 (by decide) rfl) gA0 (by decide) rfl) (F16.k (F7.k h_rh gA0 (by decide) rfl) gA0 (by decide) rfl) (by omega) (by omega) (by omega))
    · have b14 : 0 ≤ rh ∧ rh ≤ 23 := by omega
      refine w_t (np := 39) (l2 := [some (eR a0), some (eI (v1)), none, none, none, none, none, none, none, none]) (s2 := [eI (1), eR a0]) rfl rfl rfl ?_
      refine w_go (t1 := 43) rfl rfl ?_
      refine w_t (np := 44) (l2 := [some (eR a0), some (eI (v1)), none, none, none, none, none, none, none, none]) (s2 := [eI (4), eI (1), eR a0]) rfl rfl rfl ?_
      refine w_cw (np := 47) (as := [eI (1), eI (4)]) (l2 := [some (eR a0), some (eI (1)), some (eI (4))]) (rest := []) rfl rfl rfl (Nat.ble_eq.mp rfl) rfl rfl rfl (I6.kd gA0 (by decide) (n := 69) rfl) rfl ?_
      refine s_346 (a1 := 1) (a2 := 4) I6 gA0 (by decide) (by decide) e9 ?_
      intro m14 v17 I15 F16 e18 h19
      have F20 : Fr l_352 0 0 g μ m14 := F11.t F16 rfl
      have b21 : 0 ≤ v17 ∧ v17 ≤ 8 := by
        rw [← e18]
        exact I15.int gA0 (by decide) (n := 69) rfl (by decide) rfl
      show ex_q (dt_fg L ρ) rc (d + 7, (352, 47, [some (eR a0), some (eI (v1)), none, none, none, none, none, none, none, none], []), f :: F, m14)
      refine w_t (np := 48) (l2 := [some (eR a0), some (eI (v1)), none, none, none, none, none, none, none, none]) (s2 := [eR a0]) rfl (s_an rfl (pos_g I15 gA0 (by decide))) rfl ?_
      refine w_gf (np := 51) (v := eI (pl)) rfl rfl (I15.kd gA0 (by decide) (n := 69) rfl) (by rw [(F16.k (F7.k h_pl gA0 (by decide) rfl) gA0 (by decide) rfl)]; rfl) ?_
      refine w_t (np := 52) (l2 := [some (eR a0), some (eI (v1)), some (eI (pl)), none, none, none, none, none, none, none]) (s2 := []) rfl rfl rfl ?_
      refine w_t (np := 53) (l2 := [some (eR a0), some (eI (v1)), some (eI (pl)), none, none, none, none, none, none, none]) (s2 := [eR a0]) rfl (s_an rfl (pos_g I15 gA0 (by decide))) rfl ?_
      refine w_gf (np := 56) (v := eI (v17)) rfl rfl (I15.kd gA0 (by decide) (n := 69) rfl) (by rw [e18]; rfl) ?_
      refine b_ile (t1 := 60) (t2 := 59) rfl rfl rfl (ev_w_in (by omega) (by omega)) (fun g22 => ?_) (fun g22 => ?_)
      · have b23 : 0 ≤ v17 ∧ v17 ≤ 0 := by omega
        refine w_t (np := 61) (l2 := [some (eR a0), some (eI (v1)), some (eI (pl)), none, none, none, none, none, none, none]) (s2 := [eR a0]) rfl (s_an rfl (pos_g I15 gA0 (by decide))) rfl ?_
        refine w_cw (np := 64) (as := []) (l2 := [some (eR a0)]) (rest := []) rfl rfl rfl (Nat.ble_eq.mp rfl) rfl rfl rfl (I15.kd gA0 (by decide) (n := 69) rfl) rfl ?_
        refine s_345 I15 gA0 (F16.k (F7.k h_so gA0 (by decide) rfl) gA0 (by decide) rfl) (F16.k (F7.k h_pl gA0 (by decide) rfl) gA0 (by decide) rfl) (F16.k (F7.k h_th gA0 (by decide) rfl) gA0 (by decide) rfl) (by omega) ?_
        intro m23 v26 v28 v30 I24 F25 e27 e29 e31 h32 h33
        have F34 : Fr l_352 0 0 g μ m23 := F20.t F25 rfl
        have b35 : -2147483648 ≤ v26 ∧ v26 ≤ 2147483647 := by
          rw [← e27]
          exact I24.int gA0 (by decide) (n := 69) rfl (by decide) rfl
        have b36 : 0 ≤ v28 ∧ v28 ≤ 902 := by
          rw [← e29]
          exact I24.int gA0 (by decide) (n := 69) rfl (by decide) rfl
        have b37 : 0 ≤ v30 ∧ v30 ≤ 902 := by
          rw [← e31]
          exact I24.int gA0 (by decide) (n := 69) rfl (by decide) rfl
        clear hp2 hp3
        show ex_q (dt_fg L ρ) rc (d + 7, (352, 64, [some (eR a0), some (eI (v1)), some (eI (pl)), none, none, none, none, none, none, none], []), f :: F, m23)
        refine w_t (np := 65) (l2 := [some (eR a0), some (eI (v1)), some (eI (pl)), none, none, none, none, none, none, none]) (s2 := [eR a0]) rfl (s_an rfl (pos_g I24 gA0 (by decide))) rfl ?_
        refine w_cw (np := 68) (as := []) (l2 := [some (eR a0), none, none]) (rest := []) rfl rfl rfl (Nat.ble_eq.mp rfl) rfl rfl rfl (I24.kd gA0 (by decide) (n := 69) rfl) rfl ?_
        refine s_351 I24 gA0 (F25.k e18 gA0 (by decide) rfl) e27 e29 e31 (by omega) (by omega) ?_
        intro m38 v41 v43 v45 v47 v49 I39 F40 b42 e44 e46 e48 e50 h51 h52
        have F53 : Fr l_352 0 0 g μ m38 := F34.t F40 rfl
        have b54 : 0 ≤ v43 ∧ v43 ≤ 8 := by
          rw [← e44]
          exact I39.int gA0 (by decide) (n := 69) rfl (by decide) rfl
        have b55 : -2147483648 ≤ v45 ∧ v45 ≤ 2147483647 := by
          rw [← e46]
          exact I39.int gA0 (by decide) (n := 69) rfl (by decide) rfl
        have b56 : 0 ≤ v47 ∧ v47 ≤ 902 := by
          rw [← e48]
          exact I39.int gA0 (by decide) (n := 69) rfl (by decide) rfl
        have b57 : 0 ≤ v49 ∧ v49 ≤ 902 := by
          rw [← e50]
          exact I39.int gA0 (by decide) (n := 69) rfl (by decide) rfl
        clear h32 h33
        show ex_q (dt_fg L ρ) rc (d + 7, (352, 68, [some (eR a0), some (eI (v1)), some (eI (pl)), none, none, none, none, none, none, none], [eI (v41)]), f :: F, m38)
        refine w_t (np := 69) (l2 := [some (eR a0), some (eI (v1)), some (eI (pl)), some (eI (v41)), none, none, none, none, none, none]) (s2 := []) rfl rfl rfl ?_
        refine w_t (np := 70) (l2 := [some (eR a0), some (eI (v1)), some (eI (pl)), some (eI (v41)), none, none, none, none, none, none]) (s2 := [eR a0]) rfl (s_an rfl (pos_g I39 gA0 (by decide))) rfl ?_
        refine w_cw (np := 73) (as := []) (l2 := [some (eR a0), none, none]) (rest := []) rfl rfl rfl (Nat.ble_eq.mp rfl) rfl rfl rfl (I39.kd gA0 (by decide) (n := 69) rfl) rfl ?_
        refine s_351 I39 gA0 e44 e46 e48 e50 (by omega) (by omega) ?_
        intro m58 v61 v63 v65 v67 v69 I59 F60 b62 e64 e66 e68 e70 h71 h72
        have F73 : Fr l_352 0 0 g μ m58 := F53.t F60 rfl
        have b74 : 0 ≤ v63 ∧ v63 ≤ 8 := by
          rw [← e64]
          exact I59.int gA0 (by decide) (n := 69) rfl (by decide) rfl
        have b75 : -2147483648 ≤ v65 ∧ v65 ≤ 2147483647 := by
          rw [← e66]
          exact I59.int gA0 (by decide) (n := 69) rfl (by decide) rfl
        have b76 : 0 ≤ v67 ∧ v67 ≤ 902 := by
          rw [← e68]
          exact I59.int gA0 (by decide) (n := 69) rfl (by decide) rfl
        have b77 : 0 ≤ v69 ∧ v69 ≤ 902 := by
          rw [← e70]
          exact I59.int gA0 (by decide) (n := 69) rfl (by decide) rfl
        clear h51 h52
        show ex_q (dt_fg L ρ) rc (d + 7, (352, 73, [some (eR a0), some (eI (v1)), some (eI (pl)), some (eI (v41)), none, none, none, none, none, none], [eI (v61)]), f :: F, m58)
        refine w_t (np := 75) (l2 := [some (eR a0), some (eI (v1)), some (eI (pl)), some (eI (v41)), some (eI (v61)), none, none, none, none, none]) (s2 := []) rfl rfl rfl ?_
        refine w_t (np := 76) (l2 := [some (eR a0), some (eI (v1)), some (eI (pl)), some (eI (v41)), some (eI (v61)), none, none, none, none, none]) (s2 := [eR a0]) rfl (s_an rfl (pos_g I59 gA0 (by decide))) rfl ?_
        refine w_cw (np := 79) (as := []) (l2 := [some (eR a0), none, none]) (rest := []) rfl rfl rfl (Nat.ble_eq.mp rfl) rfl rfl rfl (I59.kd gA0 (by decide) (n := 69) rfl) rfl ?_
        refine s_351 I59 gA0 e64 e66 e68 e70 (by omega) (by omega) ?_
        intro m78 v81 v83 v85 v87 v89 I79 F80 b82 e84 e86 e88 e90 h91 h92
        have F93 : Fr l_352 0 0 g μ m78 := F73.t F80 rfl
        have b94 : 0 ≤ v83 ∧ v83 ≤ 8 := by
          rw [← e84]
          exact I79.int gA0 (by decide) (n := 69) rfl (by decide) rfl
        have b95 : -2147483648 ≤ v85 ∧ v85 ≤ 2147483647 := by
          rw [← e86]
          exact I79.int gA0 (by decide) (n := 69) rfl (by decide) rfl
        have b96 : 0 ≤ v87 ∧ v87 ≤ 902 := by
          rw [← e88]
          exact I79.int gA0 (by decide) (n := 69) rfl (by decide) rfl
        have b97 : 0 ≤ v89 ∧ v89 ≤ 902 := by
          rw [← e90]
          exact I79.int gA0 (by decide) (n := 69) rfl (by decide) rfl
        clear h71 h72
        show ex_q (dt_fg L ρ) rc (d + 7, (352, 79, [some (eR a0), some (eI (v1)), some (eI (pl)), some (eI (v41)), some (eI (v61)), none, none, none, none, none], [eI (v81)]), f :: F, m78)
        refine w_t (np := 81) (l2 := [some (eR a0), some (eI (v1)), some (eI (pl)), some (eI (v41)), some (eI (v61)), some (eI (v81)), none, none, none, none]) (s2 := []) rfl rfl rfl ?_
        refine w_t (np := 82) (l2 := [some (eR a0), some (eI (v1)), some (eI (pl)), some (eI (v41)), some (eI (v61)), some (eI (v81)), none, none, none, none]) (s2 := [eR a0]) rfl (s_an rfl (pos_g I79 gA0 (by decide))) rfl ?_
        refine w_cw (np := 85) (as := []) (l2 := [some (eR a0), none, none]) (rest := []) rfl rfl rfl (Nat.ble_eq.mp rfl) rfl rfl rfl (I79.kd gA0 (by decide) (n := 69) rfl) rfl ?_
        refine s_351 I79 gA0 e84 e86 e88 e90 (by omega) (by omega) ?_
        intro m98 v101 v103 v105 v107 v109 I99 F100 b102 e104 e106 e108 e110 h111 h112
        have F113 : Fr l_352 0 0 g μ m98 := F93.t F100 rfl
        have b114 : 0 ≤ v103 ∧ v103 ≤ 8 := by
          rw [← e104]
          exact I99.int gA0 (by decide) (n := 69) rfl (by decide) rfl
        have b115 : -2147483648 ≤ v105 ∧ v105 ≤ 2147483647 := by
          rw [← e106]
          exact I99.int gA0 (by decide) (n := 69) rfl (by decide) rfl
        have b116 : 0 ≤ v107 ∧ v107 ≤ 902 := by
          rw [← e108]
          exact I99.int gA0 (by decide) (n := 69) rfl (by decide) rfl
        have b117 : 0 ≤ v109 ∧ v109 ≤ 902 := by
          rw [← e110]
          exact I99.int gA0 (by decide) (n := 69) rfl (by decide) rfl
        clear h91 h92
        show ex_q (dt_fg L ρ) rc (d + 7, (352, 85, [some (eR a0), some (eI (v1)), some (eI (pl)), some (eI (v41)), some (eI (v61)), some (eI (v81)), none, none, none, none], [eI (v101)]), f :: F, m98)
        refine w_t (np := 87) (l2 := [some (eR a0), some (eI (v1)), some (eI (pl)), some (eI (v41)), some (eI (v61)), some (eI (v81)), some (eI (v101)), none, none, none]) (s2 := []) rfl rfl rfl ?_
        refine w_t (np := 88) (l2 := [some (eR a0), some (eI (v1)), some (eI (pl)), some (eI (v41)), some (eI (v61)), some (eI (v81)), some (eI (v101)), none, none, none]) (s2 := [eR a0]) rfl (s_an rfl (pos_g I99 gA0 (by decide))) rfl ?_
        refine w_t (np := 89) (l2 := [some (eR a0), some (eI (v1)), some (eI (pl)), some (eI (v41)), some (eI (v61)), some (eI (v81)), some (eI (v101)), none, none, none]) (s2 := [eR a0, eR a0]) rfl (s_an rfl (pos_g I99 gA0 (by decide))) rfl ?_
        refine w_t (np := 90) (l2 := [some (eR a0), some (eI (v1)), some (eI (pl)), some (eI (v41)), some (eI (v61)), some (eI (v81)), some (eI (v101)), none, none, none]) (s2 := [eI (2), eR a0, eR a0]) rfl rfl rfl ?_
        refine w_cw (np := 93) (as := [eI (2)]) (l2 := [some (eR a0), some (eI (2))]) (rest := [eR a0]) rfl rfl rfl (Nat.ble_eq.mp rfl) rfl rfl rfl (I99.kd gA0 (by decide) (n := 69) rfl) rfl ?_
        refine s_347 (a1 := 2) I99 gA0 (by decide) e104 e106 ?_
        intro v118 b119 h120
        show ex_q (dt_fg L ρ) rc (d + 7, (352, 93, [some (eR a0), some (eI (v1)), some (eI (pl)), some (eI (v41)), some (eI (v61)), some (eI (v81)), some (eI (v101)), none, none, none], [eI (v118), eR a0]), f :: F, m98)
        refine w_cw (np := 96) (as := [eI (v118)]) (l2 := [some (eR a0), some (eI (v118))]) (rest := []) rfl rfl rfl (Nat.ble_eq.mp rfl) rfl rfl rfl (I99.kd gA0 (by decide) (n := 69) rfl) rfl ?_
        refine s_349 (a1 := v118) I99 gA0 (by omega) e104 e106 e108 e110 (by omega) (by omega) (by omega) ?_
        intro m121 v124 v126 v128 v130 I122 F123 e125 e127 e129 e131 h132 h133
        have F134 : Fr l_352 0 0 g μ m121 := F113.t F123 rfl
        have b135 : 0 ≤ v124 ∧ v124 ≤ 8 := by
          rw [← e125]
          exact I122.int gA0 (by decide) (n := 69) rfl (by decide) rfl
        have b136 : -2147483648 ≤ v126 ∧ v126 ≤ 2147483647 := by
          rw [← e127]
          exact I122.int gA0 (by decide) (n := 69) rfl (by decide) rfl
        have b137 : 0 ≤ v128 ∧ v128 ≤ 902 := by
          rw [← e129]
          exact I122.int gA0 (by decide) (n := 69) rfl (by decide) rfl
        have b138 : 0 ≤ v130 ∧ v130 ≤ 902 := by
          rw [← e131]
          exact I122.int gA0 (by decide) (n := 69) rfl (by decide) rfl
        clear h111 h112
        show ex_q (dt_fg L ρ) rc (d + 7, (352, 96, [some (eR a0), some (eI (v1)), some (eI (pl)), some (eI (v41)), some (eI (v61)), some (eI (v81)), some (eI (v101)), none, none, none], []), f :: F, m121)
        refine w_t (np := 97) (l2 := [some (eR a0), some (eI (v1)), some (eI (pl)), some (eI (v41)), some (eI (v61)), some (eI (v81)), some (eI (v101)), none, none, none]) (s2 := [eR a0]) rfl (s_an rfl (pos_g I122 gA0 (by decide))) rfl ?_
        refine w_t (np := 99) (l2 := [some (eR a0), some (eI (v1)), some (eI (pl)), some (eI (v41)), some (eI (v61)), some (eI (v81)), some (eI (v101)), none, none, none]) (s2 := [eI (9), eR a0]) rfl rfl rfl ?_
        refine w_cw (np := 102) (as := [eI (9)]) (l2 := [some (eR a0), some (eI (9)), none]) (rest := []) rfl rfl rfl (Nat.ble_eq.mp rfl) rfl rfl rfl (I122.kd gA0 (by decide) (n := 69) rfl) rfl ?_
        refine s_350 (a1 := 9) I122 gA0 (by decide) e125 e127 e129 e131 (by omega) (by omega) ?_
        intro m139 v142 v144 v146 v148 v150 I140 F141 b143 e145 e147 e149 e151 h152 h153
        have F154 : Fr l_352 0 0 g μ m139 := F134.t F141 rfl
        have b155 : 0 ≤ v144 ∧ v144 ≤ 8 := by
          rw [← e145]
          exact I140.int gA0 (by decide) (n := 69) rfl (by decide) rfl
        have b156 : -2147483648 ≤ v146 ∧ v146 ≤ 2147483647 := by
          rw [← e147]
          exact I140.int gA0 (by decide) (n := 69) rfl (by decide) rfl
        have b157 : 0 ≤ v148 ∧ v148 ≤ 902 := by
          rw [← e149]
          exact I140.int gA0 (by decide) (n := 69) rfl (by decide) rfl
        have b158 : 0 ≤ v150 ∧ v150 ≤ 902 := by
          rw [← e151]
          exact I140.int gA0 (by decide) (n := 69) rfl (by decide) rfl
        clear h132 h133
        show ex_q (dt_fg L ρ) rc (d + 7, (352, 102, [some (eR a0), some (eI (v1)), some (eI (pl)), some (eI (v41)), some (eI (v61)), some (eI (v81)), some (eI (v101)), none, none, none], [eI (v142)]), f :: F, m139)
        refine w_t (np := 104) (l2 := [some (eR a0), some (eI (v1)), some (eI (pl)), some (eI (v41)), some (eI (v61)), some (eI (v81)), some (eI (v101)), some (eI (v142)), none, none]) (s2 := []) rfl rfl rfl ?_
        refine w_t (np := 105) (l2 := [some (eR a0), some (eI (v1)), some (eI (pl)), some (eI (v41)), some (eI (v61)), some (eI (v81)), some (eI (v101)), some (eI (v142)), none, none]) (s2 := [eR a0]) rfl (s_an rfl (pos_g I140 gA0 (by decide))) rfl ?_
        refine w_t (np := 106) (l2 := [some (eR a0), some (eI (v1)), some (eI (pl)), some (eI (v41)), some (eI (v61)), some (eI (v81)), some (eI (v101)), some (eI (v142)), none, none]) (s2 := [eR a0, eR a0]) rfl (s_an rfl (pos_g I140 gA0 (by decide))) rfl ?_
        refine w_t (np := 107) (l2 := [some (eR a0), some (eI (v1)), some (eI (pl)), some (eI (v41)), some (eI (v61)), some (eI (v81)), some (eI (v101)), some (eI (v142)), none, none]) (s2 := [eI (3), eR a0, eR a0]) rfl rfl rfl ?_
        refine w_cw (np := 110) (as := [eI (3)]) (l2 := [some (eR a0), some (eI (3))]) (rest := [eR a0]) rfl rfl rfl (Nat.ble_eq.mp rfl) rfl rfl rfl (I140.kd gA0 (by decide) (n := 69) rfl) rfl ?_
        refine s_347 (a1 := 3) I140 gA0 (by decide) e145 e147 ?_
        intro v159 b160 h161
        show ex_q (dt_fg L ρ) rc (d + 7, (352, 110, [some (eR a0), some (eI (v1)), some (eI (pl)), some (eI (v41)), some (eI (v61)), some (eI (v81)), some (eI (v101)), some (eI (v142)), none, none], [eI (v159), eR a0]), f :: F, m139)
        refine w_cw (np := 113) (as := [eI (v159)]) (l2 := [some (eR a0), some (eI (v159))]) (rest := []) rfl rfl rfl (Nat.ble_eq.mp rfl) rfl rfl rfl (I140.kd gA0 (by decide) (n := 69) rfl) rfl ?_
        refine s_349 (a1 := v159) I140 gA0 (by omega) e145 e147 e149 e151 (by omega) (by omega) (by omega) ?_
        intro m162 v165 v167 v169 v171 I163 F164 e166 e168 e170 e172 h173 h174
        have F175 : Fr l_352 0 0 g μ m162 := F154.t F164 rfl
        have b176 : 0 ≤ v165 ∧ v165 ≤ 8 := by
          rw [← e166]
          exact I163.int gA0 (by decide) (n := 69) rfl (by decide) rfl
        have b177 : -2147483648 ≤ v167 ∧ v167 ≤ 2147483647 := by
          rw [← e168]
          exact I163.int gA0 (by decide) (n := 69) rfl (by decide) rfl
        have b178 : 0 ≤ v169 ∧ v169 ≤ 902 := by
          rw [← e170]
          exact I163.int gA0 (by decide) (n := 69) rfl (by decide) rfl
        have b179 : 0 ≤ v171 ∧ v171 ≤ 902 := by
          rw [← e172]
          exact I163.int gA0 (by decide) (n := 69) rfl (by decide) rfl
        clear h152 h153
        show ex_q (dt_fg L ρ) rc (d + 7, (352, 113, [some (eR a0), some (eI (v1)), some (eI (pl)), some (eI (v41)), some (eI (v61)), some (eI (v81)), some (eI (v101)), some (eI (v142)), none, none], []), f :: F, m162)
        refine w_t (np := 114) (l2 := [some (eR a0), some (eI (v1)), some (eI (pl)), some (eI (v41)), some (eI (v61)), some (eI (v81)), some (eI (v101)), some (eI (v142)), none, none]) (s2 := [eR a0]) rfl (s_an rfl (pos_g I163 gA0 (by decide))) rfl ?_
        refine w_t (np := 115) (l2 := [some (eR a0), some (eI (v1)), some (eI (pl)), some (eI (v41)), some (eI (v61)), some (eI (v81)), some (eI (v101)), some (eI (v142)), none, none]) (s2 := [eI (1), eR a0]) rfl rfl rfl ?_
        refine w_cw (np := 118) (as := [eI (1)]) (l2 := [some (eR a0), some (eI (1)), none]) (rest := []) rfl rfl rfl (Nat.ble_eq.mp rfl) rfl rfl rfl (I163.kd gA0 (by decide) (n := 69) rfl) rfl ?_
        refine s_350 (a1 := 1) I163 gA0 (by decide) e166 e168 e170 e172 (by omega) (by omega) ?_
        intro m180 v183 v185 v187 v189 v191 I181 F182 b184 e186 e188 e190 e192 h193 h194
        have F195 : Fr l_352 0 0 g μ m180 := F175.t F182 rfl
        have b196 : 0 ≤ v185 ∧ v185 ≤ 8 := by
          rw [← e186]
          exact I181.int gA0 (by decide) (n := 69) rfl (by decide) rfl
        have b197 : -2147483648 ≤ v187 ∧ v187 ≤ 2147483647 := by
          rw [← e188]
          exact I181.int gA0 (by decide) (n := 69) rfl (by decide) rfl
        have b198 : 0 ≤ v189 ∧ v189 ≤ 902 := by
          rw [← e190]
          exact I181.int gA0 (by decide) (n := 69) rfl (by decide) rfl
        have b199 : 0 ≤ v191 ∧ v191 ≤ 902 := by
          rw [← e192]
          exact I181.int gA0 (by decide) (n := 69) rfl (by decide) rfl
        clear h173 h174
        show ex_q (dt_fg L ρ) rc (d + 7, (352, 118, [some (eR a0), some (eI (v1)), some (eI (pl)), some (eI (v41)), some (eI (v61)), some (eI (v81)), some (eI (v101)), some (eI (v142)), none, none], [eI (v183)]), f :: F, m180)
        refine w_t (np := 120) (l2 := [some (eR a0), some (eI (v1)), some (eI (pl)), some (eI (v41)), some (eI (v61)), some (eI (v81)), some (eI (v101)), some (eI (v142)), some (eI (v183)), none]) (s2 := []) rfl rfl rfl ?_
        refine w_t (np := 121) (l2 := [some (eR a0), some (eI (v1)), some (eI (pl)), some (eI (v41)), some (eI (v61)), some (eI (v81)), some (eI (v101)), some (eI (v142)), some (eI (v183)), none]) (s2 := [eR a0]) rfl (s_an rfl (pos_g I181 gA0 (by decide))) rfl ?_
        refine w_t (np := 122) (l2 := [some (eR a0), some (eI (v1)), some (eI (pl)), some (eI (v41)), some (eI (v61)), some (eI (v81)), some (eI (v101)), some (eI (v142)), some (eI (v183)), none]) (s2 := [eR a0, eR a0]) rfl (s_an rfl (pos_g I181 gA0 (by decide))) rfl ?_
        refine w_t (np := 124) (l2 := [some (eR a0), some (eI (v1)), some (eI (pl)), some (eI (v41)), some (eI (v61)), some (eI (v81)), some (eI (v101)), some (eI (v142)), some (eI (v183)), none]) (s2 := [eI (59), eR a0, eR a0]) rfl rfl rfl ?_
        refine w_cw (np := 127) (as := [eI (59)]) (l2 := [some (eR a0), some (eI (59))]) (rest := [eR a0]) rfl rfl rfl (Nat.ble_eq.mp rfl) rfl rfl rfl (I181.kd gA0 (by decide) (n := 69) rfl) rfl ?_
        refine s_348 (a1 := 59) I181 gA0 (by decide) e186 e188 e190 (by omega) ?_
        intro v200 b201 h202
        show ex_q (dt_fg L ρ) rc (d + 7, (352, 127, [some (eR a0), some (eI (v1)), some (eI (pl)), some (eI (v41)), some (eI (v61)), some (eI (v81)), some (eI (v101)), some (eI (v142)), some (eI (v183)), none], [eI (v200), eR a0]), f :: F, m180)
        refine w_t (np := 128) (l2 := [some (eR a0), some (eI (v1)), some (eI (pl)), some (eI (v41)), some (eI (v61)), some (eI (v81)), some (eI (v101)), some (eI (v142)), some (eI (v183)), none]) (s2 := [eI (2), eI (v200), eR a0]) rfl rfl rfl ?_
        refine w_cw (np := 131) (as := [eI (v200), eI (2)]) (l2 := [some (eR a0), some (eI (v200)), some (eI (2))]) (rest := []) rfl rfl rfl (Nat.ble_eq.mp rfl) rfl rfl rfl (I181.kd gA0 (by decide) (n := 69) rfl) rfl ?_
        refine s_346 (a1 := v200) (a2 := 2) I181 gA0 (by omega) (by decide) e186 ?_
        intro m203 v206 I204 F205 e207 h208
        have F209 : Fr l_352 0 0 g μ m203 := F195.t F205 rfl
        have b210 : 0 ≤ v206 ∧ v206 ≤ 8 := by
          rw [← e207]
          exact I204.int gA0 (by decide) (n := 69) rfl (by decide) rfl
        show ex_q (dt_fg L ρ) rc (d + 7, (352, 131, [some (eR a0), some (eI (v1)), some (eI (pl)), some (eI (v41)), some (eI (v61)), some (eI (v81)), some (eI (v101)), some (eI (v142)), some (eI (v183)), none], []), f :: F, m203)
        refine w_t (np := 132) (l2 := [some (eR a0), some (eI (v1)), some (eI (pl)), some (eI (v41)), some (eI (v61)), some (eI (v81)), some (eI (v101)), some (eI (v142)), some (eI (v183)), none]) (s2 := [eR a0]) rfl (s_an rfl (pos_g I204 gA0 (by decide))) rfl ?_
        refine w_gf (np := 135) (v := eI (v206)) rfl rfl (I204.kd gA0 (by decide) (n := 69) rfl) (by rw [e207]; rfl) ?_
        refine b_ile (t1 := 139) (t2 := 138) rfl rfl rfl (ev_w_in (by omega) (by omega)) (fun g211 => ?_) (fun g211 => ?_)
        · have b212 : 0 ≤ v206 ∧ v206 ≤ 0 := by omega
          refine w_t (np := 140) (l2 := [some (eR a0), some (eI (v1)), some (eI (pl)), some (eI (v41)), some (eI (v61)), some (eI (v81)), some (eI (v101)), some (eI (v142)), some (eI (v183)), none]) (s2 := [eR a0]) rfl (s_an rfl (pos_g I204 gA0 (by decide))) rfl ?_
          refine w_t (np := 141) (l2 := [some (eR a0), some (eI (v1)), some (eI (pl)), some (eI (v41)), some (eI (v61)), some (eI (v81)), some (eI (v101)), some (eI (v142)), some (eI (v183)), none]) (s2 := [eI (v1), eR a0]) rfl rfl rfl ?_
          refine b_ieq (t1 := 148) (t2 := 144) rfl rfl rfl (ev_w_in (by omega) (by omega)) (fun g212 => False.elim (by omega)) (fun g212 => ?_)
          refine w_t (np := 145) (l2 := [some (eR a0), some (eI (v1)), some (eI (pl)), some (eI (v41)), some (eI (v61)), some (eI (v81)), some (eI (v101)), some (eI (v142)), some (eI (v183)), none]) (s2 := [eI (1), eR a0]) rfl rfl rfl ?_
          refine w_go (t1 := 149) rfl rfl ?_
          refine w_t (np := 150) (l2 := [some (eR a0), some (eI (v1)), some (eI (pl)), some (eI (v41)), some (eI (v61)), some (eI (v81)), some (eI (v101)), some (eI (v142)), some (eI (v183)), none]) (s2 := [eI (v41), eI (1), eR a0]) rfl rfl rfl ?_
          refine w_t (np := 152) (l2 := [some (eR a0), some (eI (v1)), some (eI (pl)), some (eI (v41)), some (eI (v61)), some (eI (v81)), some (eI (v101)), some (eI (v142)), some (eI (v183)), none]) (s2 := [eI (v61), eI (v41), eI (1), eR a0]) rfl rfl rfl ?_
          refine w_t (np := 154) (l2 := [some (eR a0), some (eI (v1)), some (eI (pl)), some (eI (v41)), some (eI (v61)), some (eI (v81)), some (eI (v101)), some (eI (v142)), some (eI (v183)), none]) (s2 := [eI (v81), eI (v61), eI (v41), eI (1), eR a0]) rfl rfl rfl ?_
          refine w_t (np := 156) (l2 := [some (eR a0), some (eI (v1)), some (eI (pl)), some (eI (v41)), some (eI (v61)), some (eI (v81)), some (eI (v101)), some (eI (v142)), some (eI (v183)), none]) (s2 := [eI (v101), eI (v81), eI (v61), eI (v41), eI (1), eR a0]) rfl rfl rfl ?_
          refine w_t (np := 158) (l2 := [some (eR a0), some (eI (v1)), some (eI (pl)), some (eI (v41)), some (eI (v61)), some (eI (v81)), some (eI (v101)), some (eI (v142)), some (eI (v183)), none]) (s2 := [eI (v142), eI (v101), eI (v81), eI (v61), eI (v41), eI (1), eR a0]) rfl rfl rfl ?_
          refine w_t (np := 160) (l2 := [some (eR a0), some (eI (v1)), some (eI (pl)), some (eI (v41)), some (eI (v61)), some (eI (v81)), some (eI (v101)), some (eI (v142)), some (eI (v183)), none]) (s2 := [eI (v183), eI (v142), eI (v101), eI (v81), eI (v61), eI (v41), eI (1), eR a0]) rfl rfl rfl ?_
          refine w_cw (np := 163) (as := [eI (1), eI (v41), eI (v61), eI (v81), eI (v101), eI (v142), eI (v183)]) (l2 := [some (eR a0), some (eI (1)), some (eI (v41)), some (eI (v61)), some (eI (v81)), some (eI (v101)), some (eI (v142)), some (eI (v183)), none]) (rest := []) rfl rfl rfl (Nat.ble_eq.mp rfl) rfl rfl rfl (I204.kd gA0 (by decide) (n := 69) rfl) rfl ?_
          refine s_312 (a1 := 1) (a2 := v41) (a3 := v61) (a4 := v81) (a5 := v101) (a6 := v142) (a7 := v183) I204 gA0 (by decide) (by omega) (by omega) (by omega) (by omega) (by omega) (by omega) (F205.k (F182.k (F164.k (F141.k (F123.k (F100.k (F80.k (F60.k (F40.k (F25.k (F16.k (F7.k h_rh gA0 (by decide) rfl) gA0 (by decide) rfl) gA0 (by decide) rfl) gA0 (by decide) rfl) gA0 (by decide) rfl) gA0 (by decide) rfl) gA0 (by decide) rfl) gA0 (by decide) rfl) gA0 (by decide) rfl) gA0 (by decide) rfl) gA0 (by decide) rfl) gA0 (by decide) rfl) (by omega) ?_
          intro m213 v216 I214 F215 e217 h218
          have F219 : Fr l_352 0 0 g μ m213 := F209.t F215 rfl
          have b220 : 0 ≤ v216 ∧ v216 ≤ 24 := by
            rw [← e217]
            exact I214.int gA0 (by decide) (n := 69) rfl (by decide) rfl
          show ex_q (dt_fg L ρ) rc (d + 7, (352, 163, [some (eR a0), some (eI (v1)), some (eI (pl)), some (eI (v41)), some (eI (v61)), some (eI (v81)), some (eI (v101)), some (eI (v142)), some (eI (v183)), none], []), f :: F, m213)
          refine w_t (np := 164) (l2 := [some (eR a0), some (eI (v1)), some (eI (pl)), some (eI (v41)), some (eI (v61)), some (eI (v81)), some (eI (v101)), some (eI (v142)), some (eI (v183)), none]) (s2 := [eR a0]) rfl (s_an rfl (pos_g I214 gA0 (by decide))) rfl ?_
          refine w_cw (np := 167) (as := []) (l2 := [some (eR a0), none, none, none, none]) (rest := []) rfl rfl rfl (Nat.ble_eq.mp rfl) rfl rfl rfl (I214.kd gA0 (by decide) (n := 69) rfl) rfl ?_
          refine s_311 I214 gA0 e217 (by omega) ?_
          intro m221 v224 v226 I222 F223 b225 e227 h228
          have F229 : Fr l_352 0 0 g μ m221 := F219.t F223 rfl
          have b230 : 0 ≤ v226 ∧ v226 ≤ 24 := by
            rw [← e227]
            exact I222.int gA0 (by decide) (n := 69) rfl (by decide) rfl
          show ex_q (dt_fg L ρ) rc (d + 7, (352, 167, [some (eR a0), some (eI (v1)), some (eI (pl)), some (eI (v41)), some (eI (v61)), some (eI (v81)), some (eI (v101)), some (eI (v142)), some (eI (v183)), none], [eI (v224)]), f :: F, m221)
          refine w_t (np := 169) (l2 := [some (eR a0), some (eI (v1)), some (eI (pl)), some (eI (v41)), some (eI (v61)), some (eI (v81)), some (eI (v101)), some (eI (v142)), some (eI (v183)), some (eI (v224))]) (s2 := []) rfl rfl rfl ?_
          refine w_t (np := 171) (l2 := [some (eR a0), some (eI (v1)), some (eI (pl)), some (eI (v41)), some (eI (v61)), some (eI (v81)), some (eI (v101)), some (eI (v142)), some (eI (v183)), some (eI (v224))]) (s2 := [eI (v224)]) rfl rfl rfl ?_
          refine b_ile (t1 := 186) (t2 := 174) rfl rfl rfl (ev_w_in (by omega) (by omega)) (fun g231 => ?_) (fun g231 => ?_)
          · have b232 : 0 ≤ v224 ∧ v224 ≤ 0 := by omega
            refine w_t (np := 187) (l2 := [some (eR a0), some (eI (v1)), some (eI (pl)), some (eI (v41)), some (eI (v61)), some (eI (v81)), some (eI (v101)), some (eI (v142)), some (eI (v183)), some (eI (v224))]) (s2 := [eR a0]) rfl (s_an rfl (pos_g I222 gA0 (by decide))) rfl ?_
            refine w_t (np := 188) (l2 := [some (eR a0), some (eI (v1)), some (eI (pl)), some (eI (v41)), some (eI (v61)), some (eI (v81)), some (eI (v101)), some (eI (v142)), some (eI (v183)), some (eI (v224))]) (s2 := [eR a0, eR a0]) rfl rfl rfl ?_
            refine w_gf (np := 191) (v := eI (v226)) rfl rfl (I222.kd gA0 (by decide) (n := 69) rfl) (by rw [e227]; rfl) ?_
            refine w_t (np := 192) (l2 := [some (eR a0), some (eI (v1)), some (eI (pl)), some (eI (v41)), some (eI (v61)), some (eI (v81)), some (eI (v101)), some (eI (v142)), some (eI (v183)), some (eI (v224))]) (s2 := [eI (1), eI (v226), eR a0]) rfl rfl rfl ?_
            obtain ⟨v232, e233⟩ : ∃ zz : Int, zz = (v226) + (1) := ⟨_, rfl⟩
            have b234 : 1 ≤ v232 ∧ v232 ≤ 25 := by omega
            refine w_t (np := 193) (l2 := [some (eR a0), some (eI (v1)), some (eI (pl)), some (eI (v41)), some (eI (v61)), some (eI (v81)), some (eI (v101)), some (eI (v142)), some (eI (v183)), some (eI (v224))]) (s2 := [eI (v232), eR a0]) rfl (b_iadd (by rw [← e233]; exact ev_w_in (by omega) (by omega))) rfl ?_
            refine j_pf (np := 196) (w := v232) rfl rfl I222 gA0 (by decide) (n := 69) rfl rfl (hO_i (lo := 0) (hi := 24) rfl (by omega)) ?_
            intro m235 I236 W237
            have F238 : Fr l_352 0 0 g μ m235 := F229.w W237 gA0 rfl
            refine w_t (np := 197) (l2 := [some (eR a0), some (eI (v1)), some (eI (pl)), some (eI (v41)), some (eI (v61)), some (eI (v81)), some (eI (v101)), some (eI (v142)), some (eI (v183)), some (eI (v224))]) (s2 := [eR a0]) rfl (s_an rfl (pos_g I236 gA0 (by decide))) rfl ?_
            refine w_cw (np := 200) (as := []) (l2 := [some (eR a0)]) (rest := []) rfl rfl rfl (Nat.ble_eq.mp rfl) rfl rfl rfl (I236.kd gA0 (by decide) (n := 69) rfl) rfl ?_
            refine s_345 I236 gA0 (W237.slot (F223.k (F215.k (F205.k e188 gA0 (by decide) rfl) gA0 (by decide) rfl) gA0 (by decide) rfl) (by decide)) (W237.slot (F223.k (F215.k (F205.k e190 gA0 (by decide) rfl) gA0 (by decide) rfl) gA0 (by decide) rfl) (by decide)) (W237.slot (F223.k (F215.k (F205.k e192 gA0 (by decide) rfl) gA0 (by decide) rfl) gA0 (by decide) rfl) (by decide)) (by omega) ?_
            intro m239 v242 v244 v246 I240 F241 e243 e245 e247 h248 h249
            have F250 : Fr l_352 0 0 g μ m239 := F238.t F241 rfl
            have b251 : -2147483648 ≤ v242 ∧ v242 ≤ 2147483647 := by
              rw [← e243]
              exact I240.int gA0 (by decide) (n := 69) rfl (by decide) rfl
            have b252 : 0 ≤ v244 ∧ v244 ≤ 902 := by
              rw [← e245]
              exact I240.int gA0 (by decide) (n := 69) rfl (by decide) rfl
            have b253 : 0 ≤ v246 ∧ v246 ≤ 902 := by
              rw [← e247]
              exact I240.int gA0 (by decide) (n := 69) rfl (by decide) rfl
            clear h193 h194
            show ex_q (dt_fg L ρ) rc (d + 7, (352, 200, [some (eR a0), some (eI (v1)), some (eI (pl)), some (eI (v41)), some (eI (v61)), some (eI (v81)), some (eI (v101)), some (eI (v142)), some (eI (v183)), some (eI (v224))], []), f :: F, m239)
            exact v_rv rfl rfl (K m239 (v206) (v242) (v244) (v246) (v232) I240 F250 (F241.k (W237.slot (F223.k (F215.k e207 gA0 (by decide) rfl) gA0 (by decide) rfl) (by decide)) gA0 (by decide) rfl) e243 e245 e247 (F241.k W237.at gA0 (by decide) rfl) (by omega) (by omega) (by omega))
          · have b232 : 1 ≤ v224 ∧ v224 ≤ 7 := by omega
            refine w_t (np := 175) (l2 := [some (eR a0), some (eI (v1)), some (eI (pl)), some (eI (v41)), some (eI (v61)), some (eI (v81)), some (eI (v101)), some (eI (v142)), some (eI (v183)), some (eI (v224))]) (s2 := [eR a0]) rfl (s_an rfl (pos_g I222 gA0 (by decide))) rfl ?_
            refine w_t (np := 177) (l2 := [some (eR a0), some (eI (v1)), some (eI (pl)), some (eI (v41)), some (eI (v61)), some (eI (v81)), some (eI (v101)), some (eI (v142)), some (eI (v183)), some (eI (v224))]) (s2 := [eI (v224), eR a0]) rfl rfl rfl ?_
            refine j_pf (np := 180) (w := v224) rfl rfl I222 gA0 (by decide) (n := 69) rfl rfl (hO_i (lo := 0) (hi := 8) rfl (by omega)) ?_
            intro m232 I233 W234
            have F235 : Fr l_352 0 0 g μ m232 := F229.w W234 gA0 rfl
            refine w_t (np := 181) (l2 := [some (eR a0), some (eI (v1)), some (eI (pl)), some (eI (v41)), some (eI (v61)), some (eI (v81)), some (eI (v101)), some (eI (v142)), some (eI (v183)), some (eI (v224))]) (s2 := [eR a0]) rfl (s_an rfl (pos_g I233 gA0 (by decide))) rfl ?_
            refine w_t (np := 182) (l2 := [some (eR a0), some (eI (v1)), some (eI (pl)), some (eI (v41)), some (eI (v61)), some (eI (v81)), some (eI (v101)), some (eI (v142)), some (eI (v183)), some (eI (v224))]) (s2 := [eI (pl), eR a0]) rfl rfl rfl ?_
            refine j_pf (np := 185) (w := pl) rfl rfl I233 gA0 (by decide) (n := 69) rfl rfl (hO_i (lo := -2147483648) (hi := 2147483647) rfl (by omega)) ?_
            intro m236 I237 W238
            have F239 : Fr l_352 0 0 g μ m236 := F235.w W238 gA0 rfl
            exact v_rv rfl rfl (K m236 (v224) (v187) (v189) (v191) (v226) I237 F239 (W238.slot W234.at (by decide)) (W238.slot (W234.slot (F223.k (F215.k (F205.k e188 gA0 (by decide) rfl) gA0 (by decide) rfl) gA0 (by decide) rfl) (by decide)) (by decide)) (W238.slot (W234.slot (F223.k (F215.k (F205.k e190 gA0 (by decide) rfl) gA0 (by decide) rfl) gA0 (by decide) rfl) (by decide)) (by decide)) (W238.slot (W234.slot (F223.k (F215.k (F205.k e192 gA0 (by decide) rfl) gA0 (by decide) rfl) gA0 (by decide) rfl) (by decide)) (by decide)) (W238.slot (W234.slot e227 (by decide)) (by decide)) (by omega) (by omega) (by omega))
        · have b212 : 1 ≤ v206 ∧ v206 ≤ 8 := by omega
          exact v_rv rfl rfl (K m203 (v206) (v187) (v189) (v191) (rh) I204 F209 e207 (F205.k e188 gA0 (by decide) rfl) (F205.k e190 gA0 (by decide) rfl) (F205.k e192 gA0 (by decide) rfl) (F205.k (F182.k (F164.k (F141.k (F123.k (F100.k (F80.k (F60.k (F40.k (F25.k (F16.k (F7.k h_rh gA0 (by decide) rfl) gA0 (by decide) rfl) gA0 (by decide) rfl) gA0 (by decide) rfl) gA0 (by decide) rfl) gA0 (by decide) rfl) gA0 (by decide) rfl) gA0 (by decide) rfl) gA0 (by decide) rfl) gA0 (by decide) rfl) gA0 (by decide) rfl) gA0 (by decide) rfl) (by omega) (by omega) (by omega))
      · have b23 : 1 ≤ v17 ∧ v17 ≤ 8 := by omega
        exact v_rv rfl rfl (K m14 (v17) (so) (pl) (th) (rh) I15 F20 e18 (F16.k (F7.k h_so gA0 (by decide) rfl) gA0 (by decide) rfl) (F16.k (F7.k h_pl gA0 (by decide) rfl) gA0 (by decide) rfl) (F16.k (F7.k h_th gA0 (by decide) rfl) gA0 (by decide) rfl) (F16.k (F7.k h_rh gA0 (by decide) rfl) gA0 (by decide) rfl) (by omega) (by omega) (by omega))
  · have b5 : 0 ≤ v1 ∧ v1 ≤ 0 := by omega
    refine w_t (np := 12) (l2 := [some (eR a0), some (eI (v1)), none, none, none, none, none, none, none, none]) (s2 := [eR a0, eR a0]) rfl (s_an rfl (pos_g hI gA0 (by decide))) rfl ?_
    refine w_t (np := 13) (l2 := [some (eR a0), some (eI (v1)), none, none, none, none, none, none, none, none]) (s2 := [eI (0), eR a0, eR a0]) rfl rfl rfl ?_
    refine w_cw (np := 16) (as := [eI (0)]) (l2 := [some (eR a0), some (eI (0))]) (rest := [eR a0]) rfl rfl rfl (Nat.ble_eq.mp rfl) rfl rfl rfl (hI.kd gA0 (by decide) (n := 69) rfl) rfl ?_
    refine s_347 (a1 := 0) hI gA0 (by decide) h_wr h_so ?_
    intro v5 b6 h7
    show ex_q (dt_fg L ρ) rc (d + 7, (352, 16, [some (eR a0), some (eI (v1)), none, none, none, none, none, none, none, none], [eI (v5), eR a0]), f :: F, μ)
    refine b_ieq (t1 := 23) (t2 := 19) rfl rfl rfl (ev_w_in (by omega) (by omega)) (fun g8 => ?_) (fun g8 => ?_)
    · have b9 : 0 ≤ v5 ∧ v5 ≤ 0 := by omega
      refine w_t (np := 24) (l2 := [some (eR a0), some (eI (v1)), none, none, none, none, none, none, none, none]) (s2 := [eI (0), eR a0]) rfl rfl rfl ?_
      refine w_t (np := 25) (l2 := [some (eR a0), some (eI (v1)), none, none, none, none, none, none, none, none]) (s2 := [eI (2), eI (0), eR a0]) rfl rfl rfl ?_
      refine w_cw (np := 28) (as := [eI (0), eI (2)]) (l2 := [some (eR a0), some (eI (0)), some (eI (2))]) (rest := []) rfl rfl rfl (Nat.ble_eq.mp rfl) rfl rfl rfl (hI.kd gA0 (by decide) (n := 69) rfl) rfl ?_
      refine s_346 (a1 := 0) (a2 := 2) hI gA0 (by decide) (by decide) h_wr ?_
      intro m9 v12 I10 F11 e13 h14
      have F15 : Fr l_352 0 0 g μ m9 := F0.t F11 rfl
      have b16 : 0 ≤ v12 ∧ v12 ≤ 8 := by
        rw [← e13]
        exact I10.int gA0 (by decide) (n := 69) rfl (by decide) rfl
      show ex_q (dt_fg L ρ) rc (d + 7, (352, 28, [some (eR a0), some (eI (v1)), none, none, none, none, none, none, none, none], []), f :: F, m9)
      refine w_t (np := 29) (l2 := [some (eR a0), some (eI (v1)), none, none, none, none, none, none, none, none]) (s2 := [eR a0]) rfl (s_an rfl (pos_g I10 gA0 (by decide))) rfl ?_
      refine w_t (np := 30) (l2 := [some (eR a0), some (eI (v1)), none, none, none, none, none, none, none, none]) (s2 := [eR a0, eR a0]) rfl (s_an rfl (pos_g I10 gA0 (by decide))) rfl ?_
      refine w_gf (np := 33) (v := eI (rh)) rfl rfl (I10.kd gA0 (by decide) (n := 69) rfl) (by rw [(F11.k h_rh gA0 (by decide) rfl)]; rfl) ?_
      refine w_t (np := 35) (l2 := [some (eR a0), some (eI (v1)), none, none, none, none, none, none, none, none]) (s2 := [eI (24), eI (rh), eR a0]) rfl rfl rfl ?_
      refine b_cge (t1 := 42) (t2 := 38) rfl rfl rfl (ev_w_in (by omega) (by omega)) rfl (fun g17 => ?_) (fun g17 => ?_)
      · have b18 : 24 ≤ rh ∧ rh ≤ 24 := by omega
        refine w_t (np := 43) (l2 := [some (eR a0), some (eI (v1)), none, none, none, none, none, none, none, none]) (s2 := [eI (0), eR a0]) rfl rfl rfl ?_
        refine w_t (np := 44) (l2 := [some (eR a0), some (eI (v1)), none, none, none, none, none, none, none, none]) (s2 := [eI (4), eI (0), eR a0]) rfl rfl rfl ?_
        refine w_cw (np := 47) (as := [eI (0), eI (4)]) (l2 := [some (eR a0), some (eI (0)), some (eI (4))]) (rest := []) rfl rfl rfl (Nat.ble_eq.mp rfl) rfl rfl rfl (I10.kd gA0 (by decide) (n := 69) rfl) rfl ?_
        refine s_346 (a1 := 0) (a2 := 4) I10 gA0 (by decide) (by decide) e13 ?_
        intro m18 v21 I19 F20 e22 h23
        have F24 : Fr l_352 0 0 g μ m18 := F15.t F20 rfl
        have b25 : 0 ≤ v21 ∧ v21 ≤ 8 := by
          rw [← e22]
          exact I19.int gA0 (by decide) (n := 69) rfl (by decide) rfl
        show ex_q (dt_fg L ρ) rc (d + 7, (352, 47, [some (eR a0), some (eI (v1)), none, none, none, none, none, none, none, none], []), f :: F, m18)
        refine w_t (np := 48) (l2 := [some (eR a0), some (eI (v1)), none, none, none, none, none, none, none, none]) (s2 := [eR a0]) rfl (s_an rfl (pos_g I19 gA0 (by decide))) rfl ?_
        refine w_gf (np := 51) (v := eI (pl)) rfl rfl (I19.kd gA0 (by decide) (n := 69) rfl) (by rw [(F20.k (F11.k h_pl gA0 (by decide) rfl) gA0 (by decide) rfl)]; rfl) ?_
        refine w_t (np := 52) (l2 := [some (eR a0), some (eI (v1)), some (eI (pl)), none, none, none, none, none, none, none]) (s2 := []) rfl rfl rfl ?_
        refine w_t (np := 53) (l2 := [some (eR a0), some (eI (v1)), some (eI (pl)), none, none, none, none, none, none, none]) (s2 := [eR a0]) rfl (s_an rfl (pos_g I19 gA0 (by decide))) rfl ?_
        refine w_gf (np := 56) (v := eI (v21)) rfl rfl (I19.kd gA0 (by decide) (n := 69) rfl) (by rw [e22]; rfl) ?_
        refine b_ile (t1 := 60) (t2 := 59) rfl rfl rfl (ev_w_in (by omega) (by omega)) (fun g26 => ?_) (fun g26 => ?_)
        · have b27 : 0 ≤ v21 ∧ v21 ≤ 0 := by omega
          refine w_t (np := 61) (l2 := [some (eR a0), some (eI (v1)), some (eI (pl)), none, none, none, none, none, none, none]) (s2 := [eR a0]) rfl (s_an rfl (pos_g I19 gA0 (by decide))) rfl ?_
          refine w_cw (np := 64) (as := []) (l2 := [some (eR a0)]) (rest := []) rfl rfl rfl (Nat.ble_eq.mp rfl) rfl rfl rfl (I19.kd gA0 (by decide) (n := 69) rfl) rfl ?_
          refine s_345 I19 gA0 (F20.k (F11.k h_so gA0 (by decide) rfl) gA0 (by decide) rfl) (F20.k (F11.k h_pl gA0 (by decide) rfl) gA0 (by decide) rfl) (F20.k (F11.k h_th gA0 (by decide) rfl) gA0 (by decide) rfl) (by omega) ?_
          intro m27 v30 v32 v34 I28 F29 e31 e33 e35 h36 h37
          have F38 : Fr l_352 0 0 g μ m27 := F24.t F29 rfl
          have b39 : -2147483648 ≤ v30 ∧ v30 ≤ 2147483647 := by
            rw [← e31]
            exact I28.int gA0 (by decide) (n := 69) rfl (by decide) rfl
          have b40 : 0 ≤ v32 ∧ v32 ≤ 902 := by
            rw [← e33]
            exact I28.int gA0 (by decide) (n := 69) rfl (by decide) rfl
          have b41 : 0 ≤ v34 ∧ v34 ≤ 902 := by
            rw [← e35]
            exact I28.int gA0 (by decide) (n := 69) rfl (by decide) rfl
          clear hp2 hp3
          show ex_q (dt_fg L ρ) rc (d + 7, (352, 64, [some (eR a0), some (eI (v1)), some (eI (pl)), none, none, none, none, none, none, none], []), f :: F, m27)
          refine w_t (np := 65) (l2 := [some (eR a0), some (eI (v1)), some (eI (pl)), none, none, none, none, none, none, none]) (s2 := [eR a0]) rfl (s_an rfl (pos_g I28 gA0 (by decide))) rfl ?_
          refine w_cw (np := 68) (as := []) (l2 := [some (eR a0), none, none]) (rest := []) rfl rfl rfl (Nat.ble_eq.mp rfl) rfl rfl rfl (I28.kd gA0 (by decide) (n := 69) rfl) rfl ?_
          refine s_351 I28 gA0 (F29.k e22 gA0 (by decide) rfl) e31 e33 e35 (by omega) (by omega) ?_
          intro m42 v45 v47 v49 v51 v53 I43 F44 b46 e48 e50 e52 e54 h55 h56
          have F57 : Fr l_352 0 0 g μ m42 := F38.t F44 rfl
          have b58 : 0 ≤ v47 ∧ v47 ≤ 8 := by
            rw [← e48]
            exact I43.int gA0 (by decide) (n := 69) rfl (by decide) rfl
          have b59 : -2147483648 ≤ v49 ∧ v49 ≤ 2147483647 := by
            rw [← e50]
            exact I43.int gA0 (by decide) (n := 69) rfl (by decide) rfl
          have b60 : 0 ≤ v51 ∧ v51 ≤ 902 := by
            rw [← e52]
            exact I43.int gA0 (by decide) (n := 69) rfl (by decide) rfl
          have b61 : 0 ≤ v53 ∧ v53 ≤ 902 := by
            rw [← e54]
            exact I43.int gA0 (by decide) (n := 69) rfl (by decide) rfl
          clear h36 h37
          show ex_q (dt_fg L ρ) rc (d + 7, (352, 68, [some (eR a0), some (eI (v1)), some (eI (pl)), none, none, none, none, none, none, none], [eI (v45)]), f :: F, m42)
          refine w_t (np := 69) (l2 := [some (eR a0), some (eI (v1)), some (eI (pl)), some (eI (v45)), none, none, none, none, none, none]) (s2 := []) rfl rfl rfl ?_
          refine w_t (np := 70) (l2 := [some (eR a0), some (eI (v1)), some (eI (pl)), some (eI (v45)), none, none, none, none, none, none]) (s2 := [eR a0]) rfl (s_an rfl (pos_g I43 gA0 (by decide))) rfl ?_
          refine w_cw (np := 73) (as := []) (l2 := [some (eR a0), none, none]) (rest := []) rfl rfl rfl (Nat.ble_eq.mp rfl) rfl rfl rfl (I43.kd gA0 (by decide) (n := 69) rfl) rfl ?_
          refine s_351 I43 gA0 e48 e50 e52 e54 (by omega) (by omega) ?_
          intro m62 v65 v67 v69 v71 v73 I63 F64 b66 e68 e70 e72 e74 h75 h76
          have F77 : Fr l_352 0 0 g μ m62 := F57.t F64 rfl
          have b78 : 0 ≤ v67 ∧ v67 ≤ 8 := by
            rw [← e68]
            exact I63.int gA0 (by decide) (n := 69) rfl (by decide) rfl
          have b79 : -2147483648 ≤ v69 ∧ v69 ≤ 2147483647 := by
            rw [← e70]
            exact I63.int gA0 (by decide) (n := 69) rfl (by decide) rfl
          have b80 : 0 ≤ v71 ∧ v71 ≤ 902 := by
            rw [← e72]
            exact I63.int gA0 (by decide) (n := 69) rfl (by decide) rfl
          have b81 : 0 ≤ v73 ∧ v73 ≤ 902 := by
            rw [← e74]
            exact I63.int gA0 (by decide) (n := 69) rfl (by decide) rfl
          clear h55 h56
          show ex_q (dt_fg L ρ) rc (d + 7, (352, 73, [some (eR a0), some (eI (v1)), some (eI (pl)), some (eI (v45)), none, none, none, none, none, none], [eI (v65)]), f :: F, m62)
          refine w_t (np := 75) (l2 := [some (eR a0), some (eI (v1)), some (eI (pl)), some (eI (v45)), some (eI (v65)), none, none, none, none, none]) (s2 := []) rfl rfl rfl ?_
          refine w_t (np := 76) (l2 := [some (eR a0), some (eI (v1)), some (eI (pl)), some (eI (v45)), some (eI (v65)), none, none, none, none, none]) (s2 := [eR a0]) rfl (s_an rfl (pos_g I63 gA0 (by decide))) rfl ?_
          refine w_cw (np := 79) (as := []) (l2 := [some (eR a0), none, none]) (rest := []) rfl rfl rfl (Nat.ble_eq.mp rfl) rfl rfl rfl (I63.kd gA0 (by decide) (n := 69) rfl) rfl ?_
          refine s_351 I63 gA0 e68 e70 e72 e74 (by omega) (by omega) ?_
          intro m82 v85 v87 v89 v91 v93 I83 F84 b86 e88 e90 e92 e94 h95 h96
          have F97 : Fr l_352 0 0 g μ m82 := F77.t F84 rfl
          have b98 : 0 ≤ v87 ∧ v87 ≤ 8 := by
            rw [← e88]
            exact I83.int gA0 (by decide) (n := 69) rfl (by decide) rfl
          have b99 : -2147483648 ≤ v89 ∧ v89 ≤ 2147483647 := by
            rw [← e90]
            exact I83.int gA0 (by decide) (n := 69) rfl (by decide) rfl
          have b100 : 0 ≤ v91 ∧ v91 ≤ 902 := by
            rw [← e92]
            exact I83.int gA0 (by decide) (n := 69) rfl (by decide) rfl
          have b101 : 0 ≤ v93 ∧ v93 ≤ 902 := by
            rw [← e94]
            exact I83.int gA0 (by decide) (n := 69) rfl (by decide) rfl
          clear h75 h76
          show ex_q (dt_fg L ρ) rc (d + 7, (352, 79, [some (eR a0), some (eI (v1)), some (eI (pl)), some (eI (v45)), some (eI (v65)), none, none, none, none, none], [eI (v85)]), f :: F, m82)
          refine w_t (np := 81) (l2 := [some (eR a0), some (eI (v1)), some (eI (pl)), some (eI (v45)), some (eI (v65)), some (eI (v85)), none, none, none, none]) (s2 := []) rfl rfl rfl ?_
          refine w_t (np := 82) (l2 := [some (eR a0), some (eI (v1)), some (eI (pl)), some (eI (v45)), some (eI (v65)), some (eI (v85)), none, none, none, none]) (s2 := [eR a0]) rfl (s_an rfl (pos_g I83 gA0 (by decide))) rfl ?_
          refine w_cw (np := 85) (as := []) (l2 := [some (eR a0), none, none]) (rest := []) rfl rfl rfl (Nat.ble_eq.mp rfl) rfl rfl rfl (I83.kd gA0 (by decide) (n := 69) rfl) rfl ?_
          refine s_351 I83 gA0 e88 e90 e92 e94 (by omega) (by omega) ?_
          intro m102 v105 v107 v109 v111 v113 I103 F104 b106 e108 e110 e112 e114 h115 h116
          have F117 : Fr l_352 0 0 g μ m102 := F97.t F104 rfl
          have b118 : 0 ≤ v107 ∧ v107 ≤ 8 := by
            rw [← e108]
            exact I103.int gA0 (by decide) (n := 69) rfl (by decide) rfl
          have b119 : -2147483648 ≤ v109 ∧ v109 ≤ 2147483647 := by
            rw [← e110]
            exact I103.int gA0 (by decide) (n := 69) rfl (by decide) rfl
          have b120 : 0 ≤ v111 ∧ v111 ≤ 902 := by
            rw [← e112]
            exact I103.int gA0 (by decide) (n := 69) rfl (by decide) rfl
          have b121 : 0 ≤ v113 ∧ v113 ≤ 902 := by
            rw [← e114]
            exact I103.int gA0 (by decide) (n := 69) rfl (by decide) rfl
          clear h95 h96
          show ex_q (dt_fg L ρ) rc (d + 7, (352, 85, [some (eR a0), some (eI (v1)), some (eI (pl)), some (eI (v45)), some (eI (v65)), some (eI (v85)), none, none, none, none], [eI (v105)]), f :: F, m102)
          refine w_t (np := 87) (l2 := [some (eR a0), some (eI (v1)), some (eI (pl)), some (eI (v45)), some (eI (v65)), some (eI (v85)), some (eI (v105)), none, none, none]) (s2 := []) rfl rfl rfl ?_
          refine w_t (np := 88) (l2 := [some (eR a0), some (eI (v1)), some (eI (pl)), some (eI (v45)), some (eI (v65)), some (eI (v85)), some (eI (v105)), none, none, none]) (s2 := [eR a0]) rfl (s_an rfl (pos_g I103 gA0 (by decide))) rfl ?_
          refine w_t (np := 89) (l2 := [some (eR a0), some (eI (v1)), some (eI (pl)), some (eI (v45)), some (eI (v65)), some (eI (v85)), some (eI (v105)), none, none, none]) (s2 := [eR a0, eR a0]) rfl (s_an rfl (pos_g I103 gA0 (by decide))) rfl ?_
          refine w_t (np := 90) (l2 := [some (eR a0), some (eI (v1)), some (eI (pl)), some (eI (v45)), some (eI (v65)), some (eI (v85)), some (eI (v105)), none, none, none]) (s2 := [eI (2), eR a0, eR a0]) rfl rfl rfl ?_
          refine w_cw (np := 93) (as := [eI (2)]) (l2 := [some (eR a0), some (eI (2))]) (rest := [eR a0]) rfl rfl rfl (Nat.ble_eq.mp rfl) rfl rfl rfl (I103.kd gA0 (by decide) (n := 69) rfl) rfl ?_
          refine s_347 (a1 := 2) I103 gA0 (by decide) e108 e110 ?_
          intro v122 b123 h124
          show ex_q (dt_fg L ρ) rc (d + 7, (352, 93, [some (eR a0), some (eI (v1)), some (eI (pl)), some (eI (v45)), some (eI (v65)), some (eI (v85)), some (eI (v105)), none, none, none], [eI (v122), eR a0]), f :: F, m102)
          refine w_cw (np := 96) (as := [eI (v122)]) (l2 := [some (eR a0), some (eI (v122))]) (rest := []) rfl rfl rfl (Nat.ble_eq.mp rfl) rfl rfl rfl (I103.kd gA0 (by decide) (n := 69) rfl) rfl ?_
          refine s_349 (a1 := v122) I103 gA0 (by omega) e108 e110 e112 e114 (by omega) (by omega) (by omega) ?_
          intro m125 v128 v130 v132 v134 I126 F127 e129 e131 e133 e135 h136 h137
          have F138 : Fr l_352 0 0 g μ m125 := F117.t F127 rfl
          have b139 : 0 ≤ v128 ∧ v128 ≤ 8 := by
            rw [← e129]
            exact I126.int gA0 (by decide) (n := 69) rfl (by decide) rfl
          have b140 : -2147483648 ≤ v130 ∧ v130 ≤ 2147483647 := by
            rw [← e131]
            exact I126.int gA0 (by decide) (n := 69) rfl (by decide) rfl
          have b141 : 0 ≤ v132 ∧ v132 ≤ 902 := by
            rw [← e133]
            exact I126.int gA0 (by decide) (n := 69) rfl (by decide) rfl
          have b142 : 0 ≤ v134 ∧ v134 ≤ 902 := by
            rw [← e135]
            exact I126.int gA0 (by decide) (n := 69) rfl (by decide) rfl
          clear h115 h116
          show ex_q (dt_fg L ρ) rc (d + 7, (352, 96, [some (eR a0), some (eI (v1)), some (eI (pl)), some (eI (v45)), some (eI (v65)), some (eI (v85)), some (eI (v105)), none, none, none], []), f :: F, m125)
          refine w_t (np := 97) (l2 := [some (eR a0), some (eI (v1)), some (eI (pl)), some (eI (v45)), some (eI (v65)), some (eI (v85)), some (eI (v105)), none, none, none]) (s2 := [eR a0]) rfl (s_an rfl (pos_g I126 gA0 (by decide))) rfl ?_
          refine w_t (np := 99) (l2 := [some (eR a0), some (eI (v1)), some (eI (pl)), some (eI (v45)), some (eI (v65)), some (eI (v85)), some (eI (v105)), none, none, none]) (s2 := [eI (9), eR a0]) rfl rfl rfl ?_
          refine w_cw (np := 102) (as := [eI (9)]) (l2 := [some (eR a0), some (eI (9)), none]) (rest := []) rfl rfl rfl (Nat.ble_eq.mp rfl) rfl rfl rfl (I126.kd gA0 (by decide) (n := 69) rfl) rfl ?_
          refine s_350 (a1 := 9) I126 gA0 (by decide) e129 e131 e133 e135 (by omega) (by omega) ?_
          intro m143 v146 v148 v150 v152 v154 I144 F145 b147 e149 e151 e153 e155 h156 h157
          have F158 : Fr l_352 0 0 g μ m143 := F138.t F145 rfl
          have b159 : 0 ≤ v148 ∧ v148 ≤ 8 := by
            rw [← e149]
            exact I144.int gA0 (by decide) (n := 69) rfl (by decide) rfl
          have b160 : -2147483648 ≤ v150 ∧ v150 ≤ 2147483647 := by
            rw [← e151]
            exact I144.int gA0 (by decide) (n := 69) rfl (by decide) rfl
          have b161 : 0 ≤ v152 ∧ v152 ≤ 902 := by
            rw [← e153]
            exact I144.int gA0 (by decide) (n := 69) rfl (by decide) rfl
          have b162 : 0 ≤ v154 ∧ v154 ≤ 902 := by
            rw [← e155]
            exact I144.int gA0 (by decide) (n := 69) rfl (by decide) rfl
          clear h136 h137
          show ex_q (dt_fg L ρ) rc (d + 7, (352, 102, [some (eR a0), some (eI (v1)), some (eI (pl)), some (eI (v45)), some (eI (v65)), some (eI (v85)), some (eI (v105)), none, none, none], [eI (v146)]), f :: F, m143)
          refine w_t (np := 104) (l2 := [some (eR a0), some (eI (v1)), some (eI (pl)), some (eI (v45)), some (eI (v65)), some (eI (v85)), some (eI (v105)), some (eI (v146)), none, none]) (s2 := []) rfl rfl rfl ?_
          refine w_t (np := 105) (l2 := [some (eR a0), some (eI (v1)), some (eI (pl)), some (eI (v45)), some (eI (v65)), some (eI (v85)), some (eI (v105)), some (eI (v146)), none, none]) (s2 := [eR a0]) rfl (s_an rfl (pos_g I144 gA0 (by decide))) rfl ?_
          refine w_t (np := 106) (l2 := [some (eR a0), some (eI (v1)), some (eI (pl)), some (eI (v45)), some (eI (v65)), some (eI (v85)), some (eI (v105)), some (eI (v146)), none, none]) (s2 := [eR a0, eR a0]) rfl (s_an rfl (pos_g I144 gA0 (by decide))) rfl ?_
          refine w_t (np := 107) (l2 := [some (eR a0), some (eI (v1)), some (eI (pl)), some (eI (v45)), some (eI (v65)), some (eI (v85)), some (eI (v105)), some (eI (v146)), none, none]) (s2 := [eI (3), eR a0, eR a0]) rfl rfl rfl ?_
          refine w_cw (np := 110) (as := [eI (3)]) (l2 := [some (eR a0), some (eI (3))]) (rest := [eR a0]) rfl rfl rfl (Nat.ble_eq.mp rfl) rfl rfl rfl (I144.kd gA0 (by decide) (n := 69) rfl) rfl ?_
          refine s_347 (a1 := 3) I144 gA0 (by decide) e149 e151 ?_
          intro v163 b164 h165
          show ex_q (dt_fg L ρ) rc (d + 7, (352, 110, [some (eR a0), some (eI (v1)), some (eI (pl)), some (eI (v45)), some (eI (v65)), some (eI (v85)), some (eI (v105)), some (eI (v146)), none, none], [eI (v163), eR a0]), f :: F, m143)
          refine w_cw (np := 113) (as := [eI (v163)]) (l2 := [some (eR a0), some (eI (v163))]) (rest := []) rfl rfl rfl (Nat.ble_eq.mp rfl) rfl rfl rfl (I144.kd gA0 (by decide) (n := 69) rfl) rfl ?_
          refine s_349 (a1 := v163) I144 gA0 (by omega) e149 e151 e153 e155 (by omega) (by omega) (by omega) ?_
          intro m166 v169 v171 v173 v175 I167 F168 e170 e172 e174 e176 h177 h178
          have F179 : Fr l_352 0 0 g μ m166 := F158.t F168 rfl
          have b180 : 0 ≤ v169 ∧ v169 ≤ 8 := by
            rw [← e170]
            exact I167.int gA0 (by decide) (n := 69) rfl (by decide) rfl
          have b181 : -2147483648 ≤ v171 ∧ v171 ≤ 2147483647 := by
            rw [← e172]
            exact I167.int gA0 (by decide) (n := 69) rfl (by decide) rfl
          have b182 : 0 ≤ v173 ∧ v173 ≤ 902 := by
            rw [← e174]
            exact I167.int gA0 (by decide) (n := 69) rfl (by decide) rfl
          have b183 : 0 ≤ v175 ∧ v175 ≤ 902 := by
            rw [← e176]
            exact I167.int gA0 (by decide) (n := 69) rfl (by decide) rfl
          clear h156 h157
          show ex_q (dt_fg L ρ) rc (d + 7, (352, 113, [some (eR a0), some (eI (v1)), some (eI (pl)), some (eI (v45)), some (eI (v65)), some (eI (v85)), some (eI (v105)), some (eI (v146)), none, none], []), f :: F, m166)
          refine w_t (np := 114) (l2 := [some (eR a0), some (eI (v1)), some (eI (pl)), some (eI (v45)), some (eI (v65)), some (eI (v85)), some (eI (v105)), some (eI (v146)), none, none]) (s2 := [eR a0]) rfl (s_an rfl (pos_g I167 gA0 (by decide))) rfl ?_
          refine w_t (np := 115) (l2 := [some (eR a0), some (eI (v1)), some (eI (pl)), some (eI (v45)), some (eI (v65)), some (eI (v85)), some (eI (v105)), some (eI (v146)), none, none]) (s2 := [eI (1), eR a0]) rfl rfl rfl ?_
          refine w_cw (np := 118) (as := [eI (1)]) (l2 := [some (eR a0), some (eI (1)), none]) (rest := []) rfl rfl rfl (Nat.ble_eq.mp rfl) rfl rfl rfl (I167.kd gA0 (by decide) (n := 69) rfl) rfl ?_
          refine s_350 (a1 := 1) I167 gA0 (by decide) e170 e172 e174 e176 (by omega) (by omega) ?_
          intro m184 v187 v189 v191 v193 v195 I185 F186 b188 e190 e192 e194 e196 h197 h198
          have F199 : Fr l_352 0 0 g μ m184 := F179.t F186 rfl
          have b200 : 0 ≤ v189 ∧ v189 ≤ 8 := by
            rw [← e190]
            exact I185.int gA0 (by decide) (n := 69) rfl (by decide) rfl
          have b201 : -2147483648 ≤ v191 ∧ v191 ≤ 2147483647 := by
            rw [← e192]
            exact I185.int gA0 (by decide) (n := 69) rfl (by decide) rfl
          have b202 : 0 ≤ v193 ∧ v193 ≤ 902 := by
            rw [← e194]
            exact I185.int gA0 (by decide) (n := 69) rfl (by decide) rfl
          have b203 : 0 ≤ v195 ∧ v195 ≤ 902 := by
            rw [← e196]
            exact I185.int gA0 (by decide) (n := 69) rfl (by decide) rfl
          clear h177 h178
          show ex_q (dt_fg L ρ) rc (d + 7, (352, 118, [some (eR a0), some (eI (v1)), some (eI (pl)), some (eI (v45)), some (eI (v65)), some (eI (v85)), some (eI (v105)), some (eI (v146)), none, none], [eI (v187)]), f :: F, m184)
          refine w_t (np := 120) (l2 := [some (eR a0), some (eI (v1)), some (eI (pl)), some (eI (v45)), some (eI (v65)), some (eI (v85)), some (eI (v105)), some (eI (v146)), some (eI (v187)), none]) (s2 := []) rfl rfl rfl ?_
          refine w_t (np := 121) (l2 := [some (eR a0), some (eI (v1)), some (eI (pl)), some (eI (v45)), some (eI (v65)), some (eI (v85)), some (eI (v105)), some (eI (v146)), some (eI (v187)), none]) (s2 := [eR a0]) rfl (s_an rfl (pos_g I185 gA0 (by decide))) rfl ?_
          refine w_t (np := 122) (l2 := [some (eR a0), some (eI (v1)), some (eI (pl)), some (eI (v45)), some (eI (v65)), some (eI (v85)), some (eI (v105)), some (eI (v146)), some (eI (v187)), none]) (s2 := [eR a0, eR a0]) rfl (s_an rfl (pos_g I185 gA0 (by decide))) rfl ?_
          refine w_t (np := 124) (l2 := [some (eR a0), some (eI (v1)), some (eI (pl)), some (eI (v45)), some (eI (v65)), some (eI (v85)), some (eI (v105)), some (eI (v146)), some (eI (v187)), none]) (s2 := [eI (59), eR a0, eR a0]) rfl rfl rfl ?_
          refine w_cw (np := 127) (as := [eI (59)]) (l2 := [some (eR a0), some (eI (59))]) (rest := [eR a0]) rfl rfl rfl (Nat.ble_eq.mp rfl) rfl rfl rfl (I185.kd gA0 (by decide) (n := 69) rfl) rfl ?_
          refine s_348 (a1 := 59) I185 gA0 (by decide) e190 e192 e194 (by omega) ?_
          intro v204 b205 h206
          show ex_q (dt_fg L ρ) rc (d + 7, (352, 127, [some (eR a0), some (eI (v1)), some (eI (pl)), some (eI (v45)), some (eI (v65)), some (eI (v85)), some (eI (v105)), some (eI (v146)), some (eI (v187)), none], [eI (v204), eR a0]), f :: F, m184)
          refine w_t (np := 128) (l2 := [some (eR a0), some (eI (v1)), some (eI (pl)), some (eI (v45)), some (eI (v65)), some (eI (v85)), some (eI (v105)), some (eI (v146)), some (eI (v187)), none]) (s2 := [eI (2), eI (v204), eR a0]) rfl rfl rfl ?_
          refine w_cw (np := 131) (as := [eI (v204), eI (2)]) (l2 := [some (eR a0), some (eI (v204)), some (eI (2))]) (rest := []) rfl rfl rfl (Nat.ble_eq.mp rfl) rfl rfl rfl (I185.kd gA0 (by decide) (n := 69) rfl) rfl ?_
          refine s_346 (a1 := v204) (a2 := 2) I185 gA0 (by omega) (by decide) e190 ?_
          intro m207 v210 I208 F209 e211 h212
          have F213 : Fr l_352 0 0 g μ m207 := F199.t F209 rfl
          have b214 : 0 ≤ v210 ∧ v210 ≤ 8 := by
            rw [← e211]
            exact I208.int gA0 (by decide) (n := 69) rfl (by decide) rfl
          show ex_q (dt_fg L ρ) rc (d + 7, (352, 131, [some (eR a0), some (eI (v1)), some (eI (pl)), some (eI (v45)), some (eI (v65)), some (eI (v85)), some (eI (v105)), some (eI (v146)), some (eI (v187)), none], []), f :: F, m207)
          refine w_t (np := 132) (l2 := [some (eR a0), some (eI (v1)), some (eI (pl)), some (eI (v45)), some (eI (v65)), some (eI (v85)), some (eI (v105)), some (eI (v146)), some (eI (v187)), none]) (s2 := [eR a0]) rfl (s_an rfl (pos_g I208 gA0 (by decide))) rfl ?_
          refine w_gf (np := 135) (v := eI (v210)) rfl rfl (I208.kd gA0 (by decide) (n := 69) rfl) (by rw [e211]; rfl) ?_
          refine b_ile (t1 := 139) (t2 := 138) rfl rfl rfl (ev_w_in (by omega) (by omega)) (fun g215 => ?_) (fun g215 => ?_)
          · have b216 : 0 ≤ v210 ∧ v210 ≤ 0 := by omega
            refine w_t (np := 140) (l2 := [some (eR a0), some (eI (v1)), some (eI (pl)), some (eI (v45)), some (eI (v65)), some (eI (v85)), some (eI (v105)), some (eI (v146)), some (eI (v187)), none]) (s2 := [eR a0]) rfl (s_an rfl (pos_g I208 gA0 (by decide))) rfl ?_
            refine w_t (np := 141) (l2 := [some (eR a0), some (eI (v1)), some (eI (pl)), some (eI (v45)), some (eI (v65)), some (eI (v85)), some (eI (v105)), some (eI (v146)), some (eI (v187)), none]) (s2 := [eI (v1), eR a0]) rfl rfl rfl ?_
            refine b_ieq (t1 := 148) (t2 := 144) rfl rfl rfl (ev_w_in (by omega) (by omega)) (fun g216 => ?_) (fun g216 => False.elim (by omega))
            refine w_t (np := 149) (l2 := [some (eR a0), some (eI (v1)), some (eI (pl)), some (eI (v45)), some (eI (v65)), some (eI (v85)), some (eI (v105)), some (eI (v146)), some (eI (v187)), none]) (s2 := [eI (0), eR a0]) rfl rfl rfl ?_
            refine w_t (np := 150) (l2 := [some (eR a0), some (eI (v1)), some (eI (pl)), some (eI (v45)), some (eI (v65)), some (eI (v85)), some (eI (v105)), some (eI (v146)), some (eI (v187)), none]) (s2 := [eI (v45), eI (0), eR a0]) rfl rfl rfl ?_
            refine w_t (np := 152) (l2 := [some (eR a0), some (eI (v1)), some (eI (pl)), some (eI (v45)), some (eI (v65)), some (eI (v85)), some (eI (v105)), some (eI (v146)), some (eI (v187)), none]) (s2 := [eI (v65), eI (v45), eI (0), eR a0]) rfl rfl rfl ?_
            refine w_t (np := 154) (l2 := [some (eR a0), some (eI (v1)), some (eI (pl)), some (eI (v45)), some (eI (v65)), some (eI (v85)), some (eI (v105)), some (eI (v146)), some (eI (v187)), none]) (s2 := [eI (v85), eI (v65), eI (v45), eI (0), eR a0]) rfl rfl rfl ?_
            refine w_t (np := 156) (l2 := [some (eR a0), some (eI (v1)), some (eI (pl)), some (eI (v45)), some (eI (v65)), some (eI (v85)), some (eI (v105)), some (eI (v146)), some (eI (v187)), none]) (s2 := [eI (v105), eI (v85), eI (v65), eI (v45), eI (0), eR a0]) rfl rfl rfl ?_
            refine w_t (np := 158) (l2 := [some (eR a0), some (eI (v1)), some (eI (pl)), some (eI (v45)), some (eI (v65)), some (eI (v85)), some (eI (v105)), some (eI (v146)), some (eI (v187)), none]) (s2 := [eI (v146), eI (v105), eI (v85), eI (v65), eI (v45), eI (0), eR a0]) rfl rfl rfl ?_
            refine w_t (np := 160) (l2 := [some (eR a0), some (eI (v1)), some (eI (pl)), some (eI (v45)), some (eI (v65)), some (eI (v85)), some (eI (v105)), some (eI (v146)), some (eI (v187)), none]) (s2 := [eI (v187), eI (v146), eI (v105), eI (v85), eI (v65), eI (v45), eI (0), eR a0]) rfl rfl rfl ?_
            refine w_cw (np := 163) (as := [eI (0), eI (v45), eI (v65), eI (v85), eI (v105), eI (v146), eI (v187)]) (l2 := [some (eR a0), some (eI (0)), some (eI (v45)), some (eI (v65)), some (eI (v85)), some (eI (v105)), some (eI (v146)), some (eI (v187)), none]) (rest := []) rfl rfl rfl (Nat.ble_eq.mp rfl) rfl rfl rfl (I208.kd gA0 (by decide) (n := 69) rfl) rfl ?_
            refine s_312 (a1 := 0) (a2 := v45) (a3 := v65) (a4 := v85) (a5 := v105) (a6 := v146) (a7 := v187) I208 gA0 (by decide) (by omega) (by omega) (by omega) (by omega) (by omega) (by omega) (F209.k (F186.k (F168.k (F145.k (F127.k (F104.k (F84.k (F64.k (F44.k (F29.k (F20.k (F11.k h_rh gA0 (by decide) rfl) gA0 (by decide) rfl) gA0 (by decide) rfl) gA0 (by decide) rfl) gA0 (by decide) rfl) gA0 (by decide) rfl) gA0 (by decide) rfl) gA0 (by decide) rfl) gA0 (by decide) rfl) gA0 (by decide) rfl) gA0 (by decide) rfl) gA0 (by decide) rfl) (by omega) ?_
            intro m217 v220 I218 F219 e221 h222
            have F223 : Fr l_352 0 0 g μ m217 := F213.t F219 rfl
            have b224 : 0 ≤ v220 ∧ v220 ≤ 24 := by
              rw [← e221]
              exact I218.int gA0 (by decide) (n := 69) rfl (by decide) rfl
            show ex_q (dt_fg L ρ) rc (d + 7, (352, 163, [some (eR a0), some (eI (v1)), some (eI (pl)), some (eI (v45)), some (eI (v65)), some (eI (v85)), some (eI (v105)), some (eI (v146)), some (eI (v187)), none], []), f :: F, m217)
            refine w_t (np := 164) (l2 := [some (eR a0), some (eI (v1)), some (eI (pl)), some (eI (v45)), some (eI (v65)), some (eI (v85)), some (eI (v105)), some (eI (v146)), some (eI (v187)), none]) (s2 := [eR a0]) rfl (s_an rfl (pos_g I218 gA0 (by decide))) rfl ?_
            refine w_cw (np := 167) (as := []) (l2 := [some (eR a0), none, none, none, none]) (rest := []) rfl rfl rfl (Nat.ble_eq.mp rfl) rfl rfl rfl (I218.kd gA0 (by decide) (n := 69) rfl) rfl ?_
            refine s_311 I218 gA0 e221 (by omega) ?_
            intro m225 v228 v230 I226 F227 b229 e231 h232
            have F233 : Fr l_352 0 0 g μ m225 := F223.t F227 rfl
            have b234 : 0 ≤ v230 ∧ v230 ≤ 24 := by
              rw [← e231]
              exact I226.int gA0 (by decide) (n := 69) rfl (by decide) rfl
            show ex_q (dt_fg L ρ) rc (d + 7, (352, 167, [some (eR a0), some (eI (v1)), some (eI (pl)), some (eI (v45)), some (eI (v65)), some (eI (v85)), some (eI (v105)), some (eI (v146)), some (eI (v187)), none], [eI (v228)]), f :: F, m225)
            refine w_t (np := 169) (l2 := [some (eR a0), some (eI (v1)), some (eI (pl)), some (eI (v45)), some (eI (v65)), some (eI (v85)), some (eI (v105)), some (eI (v146)), some (eI (v187)), some (eI (v228))]) (s2 := []) rfl rfl rfl ?_
            refine w_t (np := 171) (l2 := [some (eR a0), some (eI (v1)), some (eI (pl)), some (eI (v45)), some (eI (v65)), some (eI (v85)), some (eI (v105)), some (eI (v146)), some (eI (v187)), some (eI (v228))]) (s2 := [eI (v228)]) rfl rfl rfl ?_
            refine b_ile (t1 := 186) (t2 := 174) rfl rfl rfl (ev_w_in (by omega) (by omega)) (fun g235 => ?_) (fun g235 => ?_)
            · have b236 : 0 ≤ v228 ∧ v228 ≤ 0 := by omega
              refine w_t (np := 187) (l2 := [some (eR a0), some (eI (v1)), some (eI (pl)), some (eI (v45)), some (eI (v65)), some (eI (v85)), some (eI (v105)), some (eI (v146)), some (eI (v187)), some (eI (v228))]) (s2 := [eR a0]) rfl (s_an rfl (pos_g I226 gA0 (by decide))) rfl ?_
              refine w_t (np := 188) (l2 := [some (eR a0), some (eI (v1)), some (eI (pl)), some (eI (v45)), some (eI (v65)), some (eI (v85)), some (eI (v105)), some (eI (v146)), some (eI (v187)), some (eI (v228))]) (s2 := [eR a0, eR a0]) rfl rfl rfl ?_
              refine w_gf (np := 191) (v := eI (v230)) rfl rfl (I226.kd gA0 (by decide) (n := 69) rfl) (by rw [e231]; rfl) ?_
              refine w_t (np := 192) (l2 := [some (eR a0), some (eI (v1)), some (eI (pl)), some (eI (v45)), some (eI (v65)), some (eI (v85)), some (eI (v105)), some (eI (v146)), some (eI (v187)), some (eI (v228))]) (s2 := [eI (1), eI (v230), eR a0]) rfl rfl rfl ?_
              obtain ⟨v236, e237⟩ : ∃ zz : Int, zz = (v230) + (1) := ⟨_, rfl⟩
              have b238 : 1 ≤ v236 ∧ v236 ≤ 25 := by omega
              refine w_t (np := 193) (l2 := [some (eR a0), some (eI (v1)), some (eI (pl)), some (eI (v45)), some (eI (v65)), some (eI (v85)), some (eI (v105)), some (eI (v146)), some (eI (v187)), some (eI (v228))]) (s2 := [eI (v236), eR a0]) rfl (b_iadd (by rw [← e237]; exact ev_w_in (by omega) (by omega))) rfl ?_
              refine j_pf (np := 196) (w := v236) rfl rfl I226 gA0 (by decide) (n := 69) rfl rfl (hO_i (lo := 0) (hi := 24) rfl (by omega)) ?_
              intro m239 I240 W241
              have F242 : Fr l_352 0 0 g μ m239 := F233.w W241 gA0 rfl
              refine w_t (np := 197) (l2 := [some (eR a0), some (eI (v1)), some (eI (pl)), some (eI (v45)), some (eI (v65)), some (eI (v85)), some (eI (v105)), some (eI (v146)), some (eI (v187)), some (eI (v228))]) (s2 := [eR a0]) rfl (s_an rfl (pos_g I240 gA0 (by decide))) rfl ?_
              refine w_cw (np := 200) (as := []) (l2 := [some (eR a0)]) (rest := []) rfl rfl rfl (Nat.ble_eq.mp rfl) rfl rfl rfl (I240.kd gA0 (by decide) (n := 69) rfl) rfl ?_
              refine s_345 I240 gA0 (W241.slot (F227.k (F219.k (F209.k e192 gA0 (by decide) rfl) gA0 (by decide) rfl) gA0 (by decide) rfl) (by decide)) (W241.slot (F227.k (F219.k (F209.k e194 gA0 (by decide) rfl) gA0 (by decide) rfl) gA0 (by decide) rfl) (by decide)) (W241.slot (F227.k (F219.k (F209.k e196 gA0 (by decide) rfl) gA0 (by decide) rfl) gA0 (by decide) rfl) (by decide)) (by omega) ?_
              intro m243 v246 v248 v250 I244 F245 e247 e249 e251 h252 h253
              have F254 : Fr l_352 0 0 g μ m243 := F242.t F245 rfl
              have b255 : -2147483648 ≤ v246 ∧ v246 ≤ 2147483647 := by
                rw [← e247]
                exact I244.int gA0 (by decide) (n := 69) rfl (by decide) rfl
              have b256 : 0 ≤ v248 ∧ v248 ≤ 902 := by
                rw [← e249]
                exact I244.int gA0 (by decide) (n := 69) rfl (by decide) rfl
              have b257 : 0 ≤ v250 ∧ v250 ≤ 902 := by
                rw [← e251]
                exact I244.int gA0 (by decide) (n := 69) rfl (by decide) rfl
              clear h197 h198
              show ex_q (dt_fg L ρ) rc (d + 7, (352, 200, [some (eR a0), some (eI (v1)), some (eI (pl)), some (eI (v45)), some (eI (v65)), some (eI (v85)), some (eI (v105)), some (eI (v146)), some (eI (v187)), some (eI (v228))], []), f :: F, m243)
              exact v_rv rfl rfl (K m243 (v210) (v246) (v248) (v250) (v236) I244 F254 (F245.k (W241.slot (F227.k (F219.k e211 gA0 (by decide) rfl) gA0 (by decide) rfl) (by decide)) gA0 (by decide) rfl) e247 e249 e251 (F245.k W241.at gA0 (by decide) rfl) (by omega) (by omega) (by omega))
            · have b236 : 1 ≤ v228 ∧ v228 ≤ 7 := by omega
              refine w_t (np := 175) (l2 := [some (eR a0), some (eI (v1)), some (eI (pl)), some (eI (v45)), some (eI (v65)), some (eI (v85)), some (eI (v105)), some (eI (v146)), some (eI (v187)), some (eI (v228))]) (s2 := [eR a0]) rfl (s_an rfl (pos_g I226 gA0 (by decide))) rfl ?_
              refine w_t (np := 177) (l2 := [some (eR a0), some (eI (v1)), some (eI (pl)), some (eI (v45)), some (eI (v65)), some (eI (v85)), some (eI (v105)), some (eI (v146)), some (eI (v187)), some (eI (v228))]) (s2 := [eI (v228), eR a0]) rfl rfl rfl ?_
              refine j_pf (np := 180) (w := v228) rfl rfl I226 gA0 (by decide) (n := 69) rfl rfl (hO_i (lo := 0) (hi := 8) rfl (by omega)) ?_
              intro m236 I237 W238
              have F239 : Fr l_352 0 0 g μ m236 := F233.w W238 gA0 rfl
              refine w_t (np := 181) (l2 := [some (eR a0), some (eI (v1)), some (eI (pl)), some (eI (v45)), some (eI (v65)), some (eI (v85)), some (eI (v105)), some (eI (v146)), some (eI (v187)), some (eI (v228))]) (s2 := [eR a0]) rfl (s_an rfl (pos_g I237 gA0 (by decide))) rfl ?_
              refine w_t (np := 182) (l2 := [some (eR a0), some (eI (v1)), some (eI (pl)), some (eI (v45)), some (eI (v65)), some (eI (v85)), some (eI (v105)), some (eI (v146)), some (eI (v187)), some (eI (v228))]) (s2 := [eI (pl), eR a0]) rfl rfl rfl ?_
              refine j_pf (np := 185) (w := pl) rfl rfl I237 gA0 (by decide) (n := 69) rfl rfl (hO_i (lo := -2147483648) (hi := 2147483647) rfl (by omega)) ?_
              intro m240 I241 W242
              have F243 : Fr l_352 0 0 g μ m240 := F239.w W242 gA0 rfl
              exact v_rv rfl rfl (K m240 (v228) (v191) (v193) (v195) (v230) I241 F243 (W242.slot W238.at (by decide)) (W242.slot (W238.slot (F227.k (F219.k (F209.k e192 gA0 (by decide) rfl) gA0 (by decide) rfl) gA0 (by decide) rfl) (by decide)) (by decide)) (W242.slot (W238.slot (F227.k (F219.k (F209.k e194 gA0 (by decide) rfl) gA0 (by decide) rfl) gA0 (by decide) rfl) (by decide)) (by decide)) (W242.slot (W238.slot (F227.k (F219.k (F209.k e196 gA0 (by decide) rfl) gA0 (by decide) rfl) gA0 (by decide) rfl) (by decide)) (by decide)) (W242.slot (W238.slot e231 (by decide)) (by decide)) (by omega) (by omega) (by omega))
          · have b216 : 1 ≤ v210 ∧ v210 ≤ 8 := by omega
            exact v_rv rfl rfl (K m207 (v210) (v191) (v193) (v195) (rh) I208 F213 e211 (F209.k e192 gA0 (by decide) rfl) (F209.k e194 gA0 (by decide) rfl) (F209.k e196 gA0 (by decide) rfl) (F209.k (F186.k (F168.k (F145.k (F127.k (F104.k (F84.k (F64.k (F44.k (F29.k (F20.k (F11.k h_rh gA0 (by decide) rfl) gA0 (by decide) rfl) gA0 (by decide) rfl) gA0 (by decide) rfl) gA0 (by decide) rfl) gA0 (by decide) rfl) gA0 (by decide) rfl) gA0 (by decide) rfl) gA0 (by decide) rfl) gA0 (by decide) rfl) gA0 (by decide) rfl) gA0 (by decide) rfl) (by omega) (by omega) (by omega))
        · have b27 : 1 ≤ v21 ∧ v21 ≤ 8 := by omega
          exact v_rv rfl rfl (K m18 (v21) (so) (pl) (th) (rh) I19 F24 e22 (F20.k (F11.k h_so gA0 (by decide) rfl) gA0 (by decide) rfl) (F20.k (F11.k h_pl gA0 (by decide) rfl) gA0 (by decide) rfl) (F20.k (F11.k h_th gA0 (by decide) rfl) gA0 (by decide) rfl) (F20.k (F11.k h_rh gA0 (by decide) rfl) gA0 (by decide) rfl) (by omega) (by omega) (by omega))
      · have b18 : 0 ≤ rh ∧ rh ≤ 23 := by omega
        refine w_t (np := 39) (l2 := [some (eR a0), some (eI (v1)), none, none, none, none, none, none, none, none]) (s2 := [eI (1), eR a0]) rfl rfl rfl ?_
        refine w_go (t1 := 43) rfl rfl ?_
        refine w_t (np := 44) (l2 := [some (eR a0), some (eI (v1)), none, none, none, none, none, none, none, none]) (s2 := [eI (4), eI (1), eR a0]) rfl rfl rfl ?_
        refine w_cw (np := 47) (as := [eI (1), eI (4)]) (l2 := [some (eR a0), some (eI (1)), some (eI (4))]) (rest := []) rfl rfl rfl (Nat.ble_eq.mp rfl) rfl rfl rfl (I10.kd gA0 (by decide) (n := 69) rfl) rfl ?_
        refine s_346 (a1 := 1) (a2 := 4) I10 gA0 (by decide) (by decide) e13 ?_
        intro m18 v21 I19 F20 e22 h23
        have F24 : Fr l_352 0 0 g μ m18 := F15.t F20 rfl
        have b25 : 0 ≤ v21 ∧ v21 ≤ 8 := by
          rw [← e22]
          exact I19.int gA0 (by decide) (n := 69) rfl (by decide) rfl
        show ex_q (dt_fg L ρ) rc (d + 7, (352, 47, [some (eR a0), some (eI (v1)), none, none, none, none, none, none, none, none], []), f :: F, m18)
        refine w_t (np := 48) (l2 := [some (eR a0), some (eI (v1)), none, none, none, none, none, none, none, none]) (s2 := [eR a0]) rfl (s_an rfl (pos_g I19 gA0 (by decide))) rfl ?_
        refine w_gf (np := 51) (v := eI (pl)) rfl rfl (I19.kd gA0 (by decide) (n := 69) rfl) (by rw [(F20.k (F11.k h_pl gA0 (by decide) rfl) gA0 (by decide) rfl)]; rfl) ?_
        refine w_t (np := 52) (l2 := [some (eR a0), some (eI (v1)), some (eI (pl)), none, none, none, none, none, none, none]) (s2 := []) rfl rfl rfl ?_
        refine w_t (np := 53) (l2 := [some (eR a0), some (eI (v1)), some (eI (pl)), none, none, none, none, none, none, none]) (s2 := [eR a0]) rfl (s_an rfl (pos_g I19 gA0 (by decide))) rfl ?_
        refine w_gf (np := 56) (v := eI (v21)) rfl rfl (I19.kd gA0 (by decide) (n := 69) rfl) (by rw [e22]; rfl) ?_
        refine b_ile (t1 := 60) (t2 := 59) rfl rfl rfl (ev_w_in (by omega) (by omega)) (fun g26 => ?_) (fun g26 => ?_)
        · have b27 : 0 ≤ v21 ∧ v21 ≤ 0 := by omega
          refine w_t (np := 61) (l2 := [some (eR a0), some (eI (v1)), some (eI (pl)), none, none, none, none, none, none, none]) (s2 := [eR a0]) rfl (s_an rfl (pos_g I19 gA0 (by decide))) rfl ?_
          refine w_cw (np := 64) (as := []) (l2 := [some (eR a0)]) (rest := []) rfl rfl rfl (Nat.ble_eq.mp rfl) rfl rfl rfl (I19.kd gA0 (by decide) (n := 69) rfl) rfl ?_
          refine s_345 I19 gA0 (F20.k (F11.k h_so gA0 (by decide) rfl) gA0 (by decide) rfl) (F20.k (F11.k h_pl gA0 (by decide) rfl) gA0 (by decide) rfl) (F20.k (F11.k h_th gA0 (by decide) rfl) gA0 (by decide) rfl) (by omega) ?_
          intro m27 v30 v32 v34 I28 F29 e31 e33 e35 h36 h37
          have F38 : Fr l_352 0 0 g μ m27 := F24.t F29 rfl
          have b39 : -2147483648 ≤ v30 ∧ v30 ≤ 2147483647 := by
            rw [← e31]
            exact I28.int gA0 (by decide) (n := 69) rfl (by decide) rfl
          have b40 : 0 ≤ v32 ∧ v32 ≤ 902 := by
            rw [← e33]
            exact I28.int gA0 (by decide) (n := 69) rfl (by decide) rfl
          have b41 : 0 ≤ v34 ∧ v34 ≤ 902 := by
            rw [← e35]
            exact I28.int gA0 (by decide) (n := 69) rfl (by decide) rfl
          clear hp2 hp3
          show ex_q (dt_fg L ρ) rc (d + 7, (352, 64, [some (eR a0), some (eI (v1)), some (eI (pl)), none, none, none, none, none, none, none], []), f :: F, m27)
          refine w_t (np := 65) (l2 := [some (eR a0), some (eI (v1)), some (eI (pl)), none, none, none, none, none, none, none]) (s2 := [eR a0]) rfl (s_an rfl (pos_g I28 gA0 (by decide))) rfl ?_
          refine w_cw (np := 68) (as := []) (l2 := [some (eR a0), none, none]) (rest := []) rfl rfl rfl (Nat.ble_eq.mp rfl) rfl rfl rfl (I28.kd gA0 (by decide) (n := 69) rfl) rfl ?_
          refine s_351 I28 gA0 (F29.k e22 gA0 (by decide) rfl) e31 e33 e35 (by omega) (by omega) ?_
          intro m42 v45 v47 v49 v51 v53 I43 F44 b46 e48 e50 e52 e54 h55 h56
          have F57 : Fr l_352 0 0 g μ m42 := F38.t F44 rfl
          have b58 : 0 ≤ v47 ∧ v47 ≤ 8 := by
            rw [← e48]
            exact I43.int gA0 (by decide) (n := 69) rfl (by decide) rfl
          have b59 : -2147483648 ≤ v49 ∧ v49 ≤ 2147483647 := by
            rw [← e50]
            exact I43.int gA0 (by decide) (n := 69) rfl (by decide) rfl
          have b60 : 0 ≤ v51 ∧ v51 ≤ 902 := by
            rw [← e52]
            exact I43.int gA0 (by decide) (n := 69) rfl (by decide) rfl
          have b61 : 0 ≤ v53 ∧ v53 ≤ 902 := by
            rw [← e54]
            exact I43.int gA0 (by decide) (n := 69) rfl (by decide) rfl
          clear h36 h37
          show ex_q (dt_fg L ρ) rc (d + 7, (352, 68, [some (eR a0), some (eI (v1)), some (eI (pl)), none, none, none, none, none, none, none], [eI (v45)]), f :: F, m42)
          refine w_t (np := 69) (l2 := [some (eR a0), some (eI (v1)), some (eI (pl)), some (eI (v45)), none, none, none, none, none, none]) (s2 := []) rfl rfl rfl ?_
          refine w_t (np := 70) (l2 := [some (eR a0), some (eI (v1)), some (eI (pl)), some (eI (v45)), none, none, none, none, none, none]) (s2 := [eR a0]) rfl (s_an rfl (pos_g I43 gA0 (by decide))) rfl ?_
          refine w_cw (np := 73) (as := []) (l2 := [some (eR a0), none, none]) (rest := []) rfl rfl rfl (Nat.ble_eq.mp rfl) rfl rfl rfl (I43.kd gA0 (by decide) (n := 69) rfl) rfl ?_
          refine s_351 I43 gA0 e48 e50 e52 e54 (by omega) (by omega) ?_
          intro m62 v65 v67 v69 v71 v73 I63 F64 b66 e68 e70 e72 e74 h75 h76
          have F77 : Fr l_352 0 0 g μ m62 := F57.t F64 rfl
          have b78 : 0 ≤ v67 ∧ v67 ≤ 8 := by
            rw [← e68]
            exact I63.int gA0 (by decide) (n := 69) rfl (by decide) rfl
          have b79 : -2147483648 ≤ v69 ∧ v69 ≤ 2147483647 := by
            rw [← e70]
            exact I63.int gA0 (by decide) (n := 69) rfl (by decide) rfl
          have b80 : 0 ≤ v71 ∧ v71 ≤ 902 := by
            rw [← e72]
            exact I63.int gA0 (by decide) (n := 69) rfl (by decide) rfl
          have b81 : 0 ≤ v73 ∧ v73 ≤ 902 := by
            rw [← e74]
            exact I63.int gA0 (by decide) (n := 69) rfl (by decide) rfl
          clear h55 h56
          show ex_q (dt_fg L ρ) rc (d + 7, (352, 73, [some (eR a0), some (eI (v1)), some (eI (pl)), some (eI (v45)), none, none, none, none, none, none], [eI (v65)]), f :: F, m62)
          refine w_t (np := 75) (l2 := [some (eR a0), some (eI (v1)), some (eI (pl)), some (eI (v45)), some (eI (v65)), none, none, none, none, none]) (s2 := []) rfl rfl rfl ?_
          refine w_t (np := 76) (l2 := [some (eR a0), some (eI (v1)), some (eI (pl)), some (eI (v45)), some (eI (v65)), none, none, none, none, none]) (s2 := [eR a0]) rfl (s_an rfl (pos_g I63 gA0 (by decide))) rfl ?_
          refine w_cw (np := 79) (as := []) (l2 := [some (eR a0), none, none]) (rest := []) rfl rfl rfl (Nat.ble_eq.mp rfl) rfl rfl rfl (I63.kd gA0 (by decide) (n := 69) rfl) rfl ?_
          refine s_351 I63 gA0 e68 e70 e72 e74 (by omega) (by omega) ?_
          intro m82 v85 v87 v89 v91 v93 I83 F84 b86 e88 e90 e92 e94 h95 h96
          have F97 : Fr l_352 0 0 g μ m82 := F77.t F84 rfl
          have b98 : 0 ≤ v87 ∧ v87 ≤ 8 := by
            rw [← e88]
            exact I83.int gA0 (by decide) (n := 69) rfl (by decide) rfl
          have b99 : -2147483648 ≤ v89 ∧ v89 ≤ 2147483647 := by
            rw [← e90]
            exact I83.int gA0 (by decide) (n := 69) rfl (by decide) rfl
          have b100 : 0 ≤ v91 ∧ v91 ≤ 902 := by
            rw [← e92]
            exact I83.int gA0 (by decide) (n := 69) rfl (by decide) rfl
          have b101 : 0 ≤ v93 ∧ v93 ≤ 902 := by
            rw [← e94]
            exact I83.int gA0 (by decide) (n := 69) rfl (by decide) rfl
          clear h75 h76
          show ex_q (dt_fg L ρ) rc (d + 7, (352, 79, [some (eR a0), some (eI (v1)), some (eI (pl)), some (eI (v45)), some (eI (v65)), none, none, none, none, none], [eI (v85)]), f :: F, m82)
          refine w_t (np := 81) (l2 := [some (eR a0), some (eI (v1)), some (eI (pl)), some (eI (v45)), some (eI (v65)), some (eI (v85)), none, none, none, none]) (s2 := []) rfl rfl rfl ?_
          refine w_t (np := 82) (l2 := [some (eR a0), some (eI (v1)), some (eI (pl)), some (eI (v45)), some (eI (v65)), some (eI (v85)), none, none, none, none]) (s2 := [eR a0]) rfl (s_an rfl (pos_g I83 gA0 (by decide))) rfl ?_
          refine w_cw (np := 85) (as := []) (l2 := [some (eR a0), none, none]) (rest := []) rfl rfl rfl (Nat.ble_eq.mp rfl) rfl rfl rfl (I83.kd gA0 (by decide) (n := 69) rfl) rfl ?_
          refine s_351 I83 gA0 e88 e90 e92 e94 (by omega) (by omega) ?_
          intro m102 v105 v107 v109 v111 v113 I103 F104 b106 e108 e110 e112 e114 h115 h116
          have F117 : Fr l_352 0 0 g μ m102 := F97.t F104 rfl
          have b118 : 0 ≤ v107 ∧ v107 ≤ 8 := by
            rw [← e108]
            exact I103.int gA0 (by decide) (n := 69) rfl (by decide) rfl
          have b119 : -2147483648 ≤ v109 ∧ v109 ≤ 2147483647 := by
            rw [← e110]
            exact I103.int gA0 (by decide) (n := 69) rfl (by decide) rfl
          have b120 : 0 ≤ v111 ∧ v111 ≤ 902 := by
            rw [← e112]
            exact I103.int gA0 (by decide) (n := 69) rfl (by decide) rfl
          have b121 : 0 ≤ v113 ∧ v113 ≤ 902 := by
            rw [← e114]
            exact I103.int gA0 (by decide) (n := 69) rfl (by decide) rfl
          clear h95 h96
          show ex_q (dt_fg L ρ) rc (d + 7, (352, 85, [some (eR a0), some (eI (v1)), some (eI (pl)), some (eI (v45)), some (eI (v65)), some (eI (v85)), none, none, none, none], [eI (v105)]), f :: F, m102)
          refine w_t (np := 87) (l2 := [some (eR a0), some (eI (v1)), some (eI (pl)), some (eI (v45)), some (eI (v65)), some (eI (v85)), some (eI (v105)), none, none, none]) (s2 := []) rfl rfl rfl ?_
          refine w_t (np := 88) (l2 := [some (eR a0), some (eI (v1)), some (eI (pl)), some (eI (v45)), some (eI (v65)), some (eI (v85)), some (eI (v105)), none, none, none]) (s2 := [eR a0]) rfl (s_an rfl (pos_g I103 gA0 (by decide))) rfl ?_
          refine w_t (np := 89) (l2 := [some (eR a0), some (eI (v1)), some (eI (pl)), some (eI (v45)), some (eI (v65)), some (eI (v85)), some (eI (v105)), none, none, none]) (s2 := [eR a0, eR a0]) rfl (s_an rfl (pos_g I103 gA0 (by decide))) rfl ?_
          refine w_t (np := 90) (l2 := [some (eR a0), some (eI (v1)), some (eI (pl)), some (eI (v45)), some (eI (v65)), some (eI (v85)), some (eI (v105)), none, none, none]) (s2 := [eI (2), eR a0, eR a0]) rfl rfl rfl ?_
          refine w_cw (np := 93) (as := [eI (2)]) (l2 := [some (eR a0), some (eI (2))]) (rest := [eR a0]) rfl rfl rfl (Nat.ble_eq.mp rfl) rfl rfl rfl (I103.kd gA0 (by decide) (n := 69) rfl) rfl ?_
          refine s_347 (a1 := 2) I103 gA0 (by decide) e108 e110 ?_
          intro v122 b123 h124
          show ex_q (dt_fg L ρ) rc (d + 7, (352, 93, [some (eR a0), some (eI (v1)), some (eI (pl)), some (eI (v45)), some (eI (v65)), some (eI (v85)), some (eI (v105)), none, none, none], [eI (v122), eR a0]), f :: F, m102)
          refine w_cw (np := 96) (as := [eI (v122)]) (l2 := [some (eR a0), some (eI (v122))]) (rest := []) rfl rfl rfl (Nat.ble_eq.mp rfl) rfl rfl rfl (I103.kd gA0 (by decide) (n := 69) rfl) rfl ?_
          refine s_349 (a1 := v122) I103 gA0 (by omega) e108 e110 e112 e114 (by omega) (by omega) (by omega) ?_
          intro m125 v128 v130 v132 v134 I126 F127 e129 e131 e133 e135 h136 h137
          have F138 : Fr l_352 0 0 g μ m125 := F117.t F127 rfl
          have b139 : 0 ≤ v128 ∧ v128 ≤ 8 := by
            rw [← e129]
            exact I126.int gA0 (by decide) (n := 69) rfl (by decide) rfl
          have b140 : -2147483648 ≤ v130 ∧ v130 ≤ 2147483647 := by
            rw [← e131]
            exact I126.int gA0 (by decide) (n := 69) rfl (by decide) rfl
          have b141 : 0 ≤ v132 ∧ v132 ≤ 902 := by
            rw [← e133]
            exact I126.int gA0 (by decide) (n := 69) rfl (by decide) rfl
          have b142 : 0 ≤ v134 ∧ v134 ≤ 902 := by
            rw [← e135]
            exact I126.int gA0 (by decide) (n := 69) rfl (by decide) rfl
          clear h115 h116
          show ex_q (dt_fg L ρ) rc (d + 7, (352, 96, [some (eR a0), some (eI (v1)), some (eI (pl)), some (eI (v45)), some (eI (v65)), some (eI (v85)), some (eI (v105)), none, none, none], []), f :: F, m125)
          refine w_t (np := 97) (l2 := [some (eR a0), some (eI (v1)), some (eI (pl)), some (eI (v45)), some (eI (v65)), some (eI (v85)), some (eI (v105)), none, none, none]) (s2 := [eR a0]) rfl (s_an rfl (pos_g I126 gA0 (by decide))) rfl ?_
          refine w_t (np := 99) (l2 := [some (eR a0), some (eI (v1)), some (eI (pl)), some (eI (v45)), some (eI (v65)), some (eI (v85)), some (eI (v105)), none, none, none]) (s2 := [eI (9), eR a0]) rfl rfl rfl ?_
          refine w_cw (np := 102) (as := [eI (9)]) (l2 := [some (eR a0), some (eI (9)), none]) (rest := []) rfl rfl rfl (Nat.ble_eq.mp rfl) rfl rfl rfl (I126.kd gA0 (by decide) (n := 69) rfl) rfl ?_
          refine s_350 (a1 := 9) I126 gA0 (by decide) e129 e131 e133 e135 (by omega) (by omega) ?_
          intro m143 v146 v148 v150 v152 v154 I144 F145 b147 e149 e151 e153 e155 h156 h157
          have F158 : Fr l_352 0 0 g μ m143 := F138.t F145 rfl
          have b159 : 0 ≤ v148 ∧ v148 ≤ 8 := by
            rw [← e149]
            exact I144.int gA0 (by decide) (n := 69) rfl (by decide) rfl
          have b160 : -2147483648 ≤ v150 ∧ v150 ≤ 2147483647 := by
            rw [← e151]
            exact I144.int gA0 (by decide) (n := 69) rfl (by decide) rfl
          have b161 : 0 ≤ v152 ∧ v152 ≤ 902 := by
            rw [← e153]
            exact I144.int gA0 (by decide) (n := 69) rfl (by decide) rfl
          have b162 : 0 ≤ v154 ∧ v154 ≤ 902 := by
            rw [← e155]
            exact I144.int gA0 (by decide) (n := 69) rfl (by decide) rfl
          clear h136 h137
          show ex_q (dt_fg L ρ) rc (d + 7, (352, 102, [some (eR a0), some (eI (v1)), some (eI (pl)), some (eI (v45)), some (eI (v65)), some (eI (v85)), some (eI (v105)), none, none, none], [eI (v146)]), f :: F, m143)
          refine w_t (np := 104) (l2 := [some (eR a0), some (eI (v1)), some (eI (pl)), some (eI (v45)), some (eI (v65)), some (eI (v85)), some (eI (v105)), some (eI (v146)), none, none]) (s2 := []) rfl rfl rfl ?_
          refine w_t (np := 105) (l2 := [some (eR a0), some (eI (v1)), some (eI (pl)), some (eI (v45)), some (eI (v65)), some (eI (v85)), some (eI (v105)), some (eI (v146)), none, none]) (s2 := [eR a0]) rfl (s_an rfl (pos_g I144 gA0 (by decide))) rfl ?_
          refine w_t (np := 106) (l2 := [some (eR a0), some (eI (v1)), some (eI (pl)), some (eI (v45)), some (eI (v65)), some (eI (v85)), some (eI (v105)), some (eI (v146)), none, none]) (s2 := [eR a0, eR a0]) rfl (s_an rfl (pos_g I144 gA0 (by decide))) rfl ?_
          refine w_t (np := 107) (l2 := [some (eR a0), some (eI (v1)), some (eI (pl)), some (eI (v45)), some (eI (v65)), some (eI (v85)), some (eI (v105)), some (eI (v146)), none, none]) (s2 := [eI (3), eR a0, eR a0]) rfl rfl rfl ?_
          refine w_cw (np := 110) (as := [eI (3)]) (l2 := [some (eR a0), some (eI (3))]) (rest := [eR a0]) rfl rfl rfl (Nat.ble_eq.mp rfl) rfl rfl rfl (I144.kd gA0 (by decide) (n := 69) rfl) rfl ?_
          refine s_347 (a1 := 3) I144 gA0 (by decide) e149 e151 ?_
          intro v163 b164 h165
          show ex_q (dt_fg L ρ) rc (d + 7, (352, 110, [some (eR a0), some (eI (v1)), some (eI (pl)), some (eI (v45)), some (eI (v65)), some (eI (v85)), some (eI (v105)), some (eI (v146)), none, none], [eI (v163), eR a0]), f :: F, m143)
          refine w_cw (np := 113) (as := [eI (v163)]) (l2 := [some (eR a0), some (eI (v163))]) (rest := []) rfl rfl rfl (Nat.ble_eq.mp rfl) rfl rfl rfl (I144.kd gA0 (by decide) (n := 69) rfl) rfl ?_
          refine s_349 (a1 := v163) I144 gA0 (by omega) e149 e151 e153 e155 (by omega) (by omega) (by omega) ?_
          intro m166 v169 v171 v173 v175 I167 F168 e170 e172 e174 e176 h177 h178
          have F179 : Fr l_352 0 0 g μ m166 := F158.t F168 rfl
          have b180 : 0 ≤ v169 ∧ v169 ≤ 8 := by
            rw [← e170]
            exact I167.int gA0 (by decide) (n := 69) rfl (by decide) rfl
          have b181 : -2147483648 ≤ v171 ∧ v171 ≤ 2147483647 := by
            rw [← e172]
            exact I167.int gA0 (by decide) (n := 69) rfl (by decide) rfl
          have b182 : 0 ≤ v173 ∧ v173 ≤ 902 := by
            rw [← e174]
            exact I167.int gA0 (by decide) (n := 69) rfl (by decide) rfl
          have b183 : 0 ≤ v175 ∧ v175 ≤ 902 := by
            rw [← e176]
            exact I167.int gA0 (by decide) (n := 69) rfl (by decide) rfl
          clear h156 h157
          show ex_q (dt_fg L ρ) rc (d + 7, (352, 113, [some (eR a0), some (eI (v1)), some (eI (pl)), some (eI (v45)), some (eI (v65)), some (eI (v85)), some (eI (v105)), some (eI (v146)), none, none], []), f :: F, m166)
          refine w_t (np := 114) (l2 := [some (eR a0), some (eI (v1)), some (eI (pl)), some (eI (v45)), some (eI (v65)), some (eI (v85)), some (eI (v105)), some (eI (v146)), none, none]) (s2 := [eR a0]) rfl (s_an rfl (pos_g I167 gA0 (by decide))) rfl ?_
          refine w_t (np := 115) (l2 := [some (eR a0), some (eI (v1)), some (eI (pl)), some (eI (v45)), some (eI (v65)), some (eI (v85)), some (eI (v105)), some (eI (v146)), none, none]) (s2 := [eI (1), eR a0]) rfl rfl rfl ?_
          refine w_cw (np := 118) (as := [eI (1)]) (l2 := [some (eR a0), some (eI (1)), none]) (rest := []) rfl rfl rfl (Nat.ble_eq.mp rfl) rfl rfl rfl (I167.kd gA0 (by decide) (n := 69) rfl) rfl ?_
          refine s_350 (a1 := 1) I167 gA0 (by decide) e170 e172 e174 e176 (by omega) (by omega) ?_
          intro m184 v187 v189 v191 v193 v195 I185 F186 b188 e190 e192 e194 e196 h197 h198
          have F199 : Fr l_352 0 0 g μ m184 := F179.t F186 rfl
          have b200 : 0 ≤ v189 ∧ v189 ≤ 8 := by
            rw [← e190]
            exact I185.int gA0 (by decide) (n := 69) rfl (by decide) rfl
          have b201 : -2147483648 ≤ v191 ∧ v191 ≤ 2147483647 := by
            rw [← e192]
            exact I185.int gA0 (by decide) (n := 69) rfl (by decide) rfl
          have b202 : 0 ≤ v193 ∧ v193 ≤ 902 := by
            rw [← e194]
            exact I185.int gA0 (by decide) (n := 69) rfl (by decide) rfl
          have b203 : 0 ≤ v195 ∧ v195 ≤ 902 := by
            rw [← e196]
            exact I185.int gA0 (by decide) (n := 69) rfl (by decide) rfl
          clear h177 h178
          show ex_q (dt_fg L ρ) rc (d + 7, (352, 118, [some (eR a0), some (eI (v1)), some (eI (pl)), some (eI (v45)), some (eI (v65)), some (eI (v85)), some (eI (v105)), some (eI (v146)), none, none], [eI (v187)]), f :: F, m184)
          refine w_t (np := 120) (l2 := [some (eR a0), some (eI (v1)), some (eI (pl)), some (eI (v45)), some (eI (v65)), some (eI (v85)), some (eI (v105)), some (eI (v146)), some (eI (v187)), none]) (s2 := []) rfl rfl rfl ?_
          refine w_t (np := 121) (l2 := [some (eR a0), some (eI (v1)), some (eI (pl)), some (eI (v45)), some (eI (v65)), some (eI (v85)), some (eI (v105)), some (eI (v146)), some (eI (v187)), none]) (s2 := [eR a0]) rfl (s_an rfl (pos_g I185 gA0 (by decide))) rfl ?_
          refine w_t (np := 122) (l2 := [some (eR a0), some (eI (v1)), some (eI (pl)), some (eI (v45)), some (eI (v65)), some (eI (v85)), some (eI (v105)), some (eI (v146)), some (eI (v187)), none]) (s2 := [eR a0, eR a0]) rfl (s_an rfl (pos_g I185 gA0 (by decide))) rfl ?_
          refine w_t (np := 124) (l2 := [some (eR a0), some (eI (v1)), some (eI (pl)), some (eI (v45)), some (eI (v65)), some (eI (v85)), some (eI (v105)), some (eI (v146)), some (eI (v187)), none]) (s2 := [eI (59), eR a0, eR a0]) rfl rfl rfl ?_
          refine w_cw (np := 127) (as := [eI (59)]) (l2 := [some (eR a0), some (eI (59))]) (rest := [eR a0]) rfl rfl rfl (Nat.ble_eq.mp rfl) rfl rfl rfl (I185.kd gA0 (by decide) (n := 69) rfl) rfl ?_
          refine s_348 (a1 := 59) I185 gA0 (by decide) e190 e192 e194 (by omega) ?_
          intro v204 b205 h206
          show ex_q (dt_fg L ρ) rc (d + 7, (352, 127, [some (eR a0), some (eI (v1)), some (eI (pl)), some (eI (v45)), some (eI (v65)), some (eI (v85)), some (eI (v105)), some (eI (v146)), some (eI (v187)), none], [eI (v204), eR a0]), f :: F, m184)
          refine w_t (np := 128) (l2 := [some (eR a0), some (eI (v1)), some (eI (pl)), some (eI (v45)), some (eI (v65)), some (eI (v85)), some (eI (v105)), some (eI (v146)), some (eI (v187)), none]) (s2 := [eI (2), eI (v204), eR a0]) rfl rfl rfl ?_
          refine w_cw (np := 131) (as := [eI (v204), eI (2)]) (l2 := [some (eR a0), some (eI (v204)), some (eI (2))]) (rest := []) rfl rfl rfl (Nat.ble_eq.mp rfl) rfl rfl rfl (I185.kd gA0 (by decide) (n := 69) rfl) rfl ?_
          refine s_346 (a1 := v204) (a2 := 2) I185 gA0 (by omega) (by decide) e190 ?_
          intro m207 v210 I208 F209 e211 h212
          have F213 : Fr l_352 0 0 g μ m207 := F199.t F209 rfl
          have b214 : 0 ≤ v210 ∧ v210 ≤ 8 := by
            rw [← e211]
            exact I208.int gA0 (by decide) (n := 69) rfl (by decide) rfl
          show ex_q (dt_fg L ρ) rc (d + 7, (352, 131, [some (eR a0), some (eI (v1)), some (eI (pl)), some (eI (v45)), some (eI (v65)), some (eI (v85)), some (eI (v105)), some (eI (v146)), some (eI (v187)), none], []), f :: F, m207)
          refine w_t (np := 132) (l2 := [some (eR a0), some (eI (v1)), some (eI (pl)), some (eI (v45)), some (eI (v65)), some (eI (v85)), some (eI (v105)), some (eI (v146)), some (eI (v187)), none]) (s2 := [eR a0]) rfl (s_an rfl (pos_g I208 gA0 (by decide))) rfl ?_
          refine w_gf (np := 135) (v := eI (v210)) rfl rfl (I208.kd gA0 (by decide) (n := 69) rfl) (by rw [e211]; rfl) ?_
          refine b_ile (t1 := 139) (t2 := 138) rfl rfl rfl (ev_w_in (by omega) (by omega)) (fun g215 => ?_) (fun g215 => ?_)
          · have b216 : 0 ≤ v210 ∧ v210 ≤ 0 := by omega
            refine w_t (np := 140) (l2 := [some (eR a0), some (eI (v1)), some (eI (pl)), some (eI (v45)), some (eI (v65)), some (eI (v85)), some (eI (v105)), some (eI (v146)), some (eI (v187)), none]) (s2 := [eR a0]) rfl (s_an rfl (pos_g I208 gA0 (by decide))) rfl ?_
            refine w_t (np := 141) (l2 := [some (eR a0), some (eI (v1)), some (eI (pl)), some (eI (v45)), some (eI (v65)), some (eI (v85)), some (eI (v105)), some (eI (v146)), some (eI (v187)), none]) (s2 := [eI (v1), eR a0]) rfl rfl rfl ?_
            refine b_ieq (t1 := 148) (t2 := 144) rfl rfl rfl (ev_w_in (by omega) (by omega)) (fun g216 => ?_) (fun g216 => False.elim (by omega))
            refine w_t (np := 149) (l2 := [some (eR a0), some (eI (v1)), some (eI (pl)), some (eI (v45)), some (eI (v65)), some (eI (v85)), some (eI (v105)), some (eI (v146)), some (eI (v187)), none]) (s2 := [eI (0), eR a0]) rfl rfl rfl ?_
            refine w_t (np := 150) (l2 := [some (eR a0), some (eI (v1)), some (eI (pl)), some (eI (v45)), some (eI (v65)), some (eI (v85)), some (eI (v105)), some (eI (v146)), some (eI (v187)), none]) (s2 := [eI (v45), eI (0), eR a0]) rfl rfl rfl ?_
            refine w_t (np := 152) (l2 := [some (eR a0), some (eI (v1)), some (eI (pl)), some (eI (v45)), some (eI (v65)), some (eI (v85)), some (eI (v105)), some (eI (v146)), some (eI (v187)), none]) (s2 := [eI (v65), eI (v45), eI (0), eR a0]) rfl rfl rfl ?_
            refine w_t (np := 154) (l2 := [some (eR a0), some (eI (v1)), some (eI (pl)), some (eI (v45)), some (eI (v65)), some (eI (v85)), some (eI (v105)), some (eI (v146)), some (eI (v187)), none]) (s2 := [eI (v85), eI (v65), eI (v45), eI (0), eR a0]) rfl rfl rfl ?_
            refine w_t (np := 156) (l2 := [some (eR a0), some (eI (v1)), some (eI (pl)), some (eI (v45)), some (eI (v65)), some (eI (v85)), some (eI (v105)), some (eI (v146)), some (eI (v187)), none]) (s2 := [eI (v105), eI (v85), eI (v65), eI (v45), eI (0), eR a0]) rfl rfl rfl ?_
            refine w_t (np := 158) (l2 := [some (eR a0), some (eI (v1)), some (eI (pl)), some (eI (v45)), some (eI (v65)), some (eI (v85)), some (eI (v105)), some (eI (v146)), some (eI (v187)), none]) (s2 := [eI (v146), eI (v105), eI (v85), eI (v65), eI (v45), eI (0), eR a0]) rfl rfl rfl ?_
            refine w_t (np := 160) (l2 := [some (eR a0), some (eI (v1)), some (eI (pl)), some (eI (v45)), some (eI (v65)), some (eI (v85)), some (eI (v105)), some (eI (v146)), some (eI (v187)), none]) (s2 := [eI (v187), eI (v146), eI (v105), eI (v85), eI (v65), eI (v45), eI (0), eR a0]) rfl rfl rfl ?_
            refine w_cw (np := 163) (as := [eI (0), eI (v45), eI (v65), eI (v85), eI (v105), eI (v146), eI (v187)]) (l2 := [some (eR a0), some (eI (0)), some (eI (v45)), some (eI (v65)), some (eI (v85)), some (eI (v105)), some (eI (v146)), some (eI (v187)), none]) (rest := []) rfl rfl rfl (Nat.ble_eq.mp rfl) rfl rfl rfl (I208.kd gA0 (by decide) (n := 69) rfl) rfl ?_
            refine s_312 (a1 := 0) (a2 := v45) (a3 := v65) (a4 := v85) (a5 := v105) (a6 := v146) (a7 := v187) I208 gA0 (by decide) (by omega) (by omega) (by omega) (by omega) (by omega) (by omega) (F209.k (F186.k (F168.k (F145.k (F127.k (F104.k (F84.k (F64.k (F44.k (F29.k (F20.k (F11.k h_rh gA0 (by decide) rfl) gA0 (by decide) rfl) gA0 (by decide) rfl) gA0 (by decide) rfl) gA0 (by decide) rfl) gA0 (by decide) rfl) gA0 (by decide) rfl) gA0 (by decide) rfl) gA0 (by decide) rfl) gA0 (by decide) rfl) gA0 (by decide) rfl) gA0 (by decide) rfl) (by omega) ?_
            intro m217 v220 I218 F219 e221 h222
            have F223 : Fr l_352 0 0 g μ m217 := F213.t F219 rfl
            have b224 : 0 ≤ v220 ∧ v220 ≤ 24 := by
              rw [← e221]
              exact I218.int gA0 (by decide) (n := 69) rfl (by decide) rfl
            show ex_q (dt_fg L ρ) rc (d + 7, (352, 163, [some (eR a0), some (eI (v1)), some (eI (pl)), some (eI (v45)), some (eI (v65)), some (eI (v85)), some (eI (v105)), some (eI (v146)), some (eI (v187)), none], []), f :: F, m217)
            refine w_t (np := 164) (l2 := [some (eR a0), some (eI (v1)), some (eI (pl)), some (eI (v45)), some (eI (v65)), some (eI (v85)), some (eI (v105)), some (eI (v146)), some (eI (v187)), none]) (s2 := [eR a0]) rfl (s_an rfl (pos_g I218 gA0 (by decide))) rfl ?_
            refine w_cw (np := 167) (as := []) (l2 := [some (eR a0), none, none, none, none]) (rest := []) rfl rfl rfl (Nat.ble_eq.mp rfl) rfl rfl rfl (I218.kd gA0 (by decide) (n := 69) rfl) rfl ?_
            refine s_311 I218 gA0 e221 (by omega) ?_
            intro m225 v228 v230 I226 F227 b229 e231 h232
            have F233 : Fr l_352 0 0 g μ m225 := F223.t F227 rfl
            have b234 : 0 ≤ v230 ∧ v230 ≤ 24 := by
              rw [← e231]
              exact I226.int gA0 (by decide) (n := 69) rfl (by decide) rfl
            show ex_q (dt_fg L ρ) rc (d + 7, (352, 167, [some (eR a0), some (eI (v1)), some (eI (pl)), some (eI (v45)), some (eI (v65)), some (eI (v85)), some (eI (v105)), some (eI (v146)), some (eI (v187)), none], [eI (v228)]), f :: F, m225)
            refine w_t (np := 169) (l2 := [some (eR a0), some (eI (v1)), some (eI (pl)), some (eI (v45)), some (eI (v65)), some (eI (v85)), some (eI (v105)), some (eI (v146)), some (eI (v187)), some (eI (v228))]) (s2 := []) rfl rfl rfl ?_
            refine w_t (np := 171) (l2 := [some (eR a0), some (eI (v1)), some (eI (pl)), some (eI (v45)), some (eI (v65)), some (eI (v85)), some (eI (v105)), some (eI (v146)), some (eI (v187)), some (eI (v228))]) (s2 := [eI (v228)]) rfl rfl rfl ?_
            refine b_ile (t1 := 186) (t2 := 174) rfl rfl rfl (ev_w_in (by omega) (by omega)) (fun g235 => ?_) (fun g235 => ?_)
            · have b236 : 0 ≤ v228 ∧ v228 ≤ 0 := by omega
              refine w_t (np := 187) (l2 := [some (eR a0), some (eI (v1)), some (eI (pl)), some (eI (v45)), some (eI (v65)), some (eI (v85)), some (eI (v105)), some (eI (v146)), some (eI (v187)), some (eI (v228))]) (s2 := [eR a0]) rfl (s_an rfl (pos_g I226 gA0 (by decide))) rfl ?_
              refine w_t (np := 188) (l2 := [some (eR a0), some (eI (v1)), some (eI (pl)), some (eI (v45)), some (eI (v65)), some (eI (v85)), some (eI (v105)), some (eI (v146)), some (eI (v187)), some (eI (v228))]) (s2 := [eR a0, eR a0]) rfl rfl rfl ?_
              refine w_gf (np := 191) (v := eI (v230)) rfl rfl (I226.kd gA0 (by decide) (n := 69) rfl) (by rw [e231]; rfl) ?_
              refine w_t (np := 192) (l2 := [some (eR a0), some (eI (v1)), some (eI (pl)), some (eI (v45)), some (eI (v65)), some (eI (v85)), some (eI (v105)), some (eI (v146)), some (eI (v187)), some (eI (v228))]) (s2 := [eI (1), eI (v230), eR a0]) rfl rfl rfl ?_
              obtain ⟨v236, e237⟩ : ∃ zz : Int, zz = (v230) + (1) := ⟨_, rfl⟩
              have b238 : 1 ≤ v236 ∧ v236 ≤ 25 := by omega
              refine w_t (np := 193) (l2 := [some (eR a0), some (eI (v1)), some (eI (pl)), some (eI (v45)), some (eI (v65)), some (eI (v85)), some (eI (v105)), some (eI (v146)), some (eI (v187)), some (eI (v228))]) (s2 := [eI (v236), eR a0]) rfl (b_iadd (by rw [← e237]; exact ev_w_in (by omega) (by omega))) rfl ?_
              refine j_pf (np := 196) (w := v236) rfl rfl I226 gA0 (by decide) (n := 69) rfl rfl (hO_i (lo := 0) (hi := 24) rfl (by omega)) ?_
              intro m239 I240 W241
              have F242 : Fr l_352 0 0 g μ m239 := F233.w W241 gA0 rfl
              refine w_t (np := 197) (l2 := [some (eR a0), some (eI (v1)), some (eI (pl)), some (eI (v45)), some (eI (v65)), some (eI (v85)), some (eI (v105)), some (eI (v146)), some (eI (v187)), some (eI (v228))]) (s2 := [eR a0]) rfl (s_an rfl (pos_g I240 gA0 (by decide))) rfl ?_
              refine w_cw (np := 200) (as := []) (l2 := [some (eR a0)]) (rest := []) rfl rfl rfl (Nat.ble_eq.mp rfl) rfl rfl rfl (I240.kd gA0 (by decide) (n := 69) rfl) rfl ?_
              refine s_345 I240 gA0 (W241.slot (F227.k (F219.k (F209.k e192 gA0 (by decide) rfl) gA0 (by decide) rfl) gA0 (by decide) rfl) (by decide)) (W241.slot (F227.k (F219.k (F209.k e194 gA0 (by decide) rfl) gA0 (by decide) rfl) gA0 (by decide) rfl) (by decide)) (W241.slot (F227.k (F219.k (F209.k e196 gA0 (by decide) rfl) gA0 (by decide) rfl) gA0 (by decide) rfl) (by decide)) (by omega) ?_
              intro m243 v246 v248 v250 I244 F245 e247 e249 e251 h252 h253
              have F254 : Fr l_352 0 0 g μ m243 := F242.t F245 rfl
              have b255 : -2147483648 ≤ v246 ∧ v246 ≤ 2147483647 := by
                rw [← e247]
                exact I244.int gA0 (by decide) (n := 69) rfl (by decide) rfl
              have b256 : 0 ≤ v248 ∧ v248 ≤ 902 := by
                rw [← e249]
                exact I244.int gA0 (by decide) (n := 69) rfl (by decide) rfl
              have b257 : 0 ≤ v250 ∧ v250 ≤ 902 := by
                rw [← e251]
                exact I244.int gA0 (by decide) (n := 69) rfl (by decide) rfl
              clear h197 h198
              show ex_q (dt_fg L ρ) rc (d + 7, (352, 200, [some (eR a0), some (eI (v1)), some (eI (pl)), some (eI (v45)), some (eI (v65)), some (eI (v85)), some (eI (v105)), some (eI (v146)), some (eI (v187)), some (eI (v228))], []), f :: F, m243)
              exact v_rv rfl rfl (K m243 (v210) (v246) (v248) (v250) (v236) I244 F254 (F245.k (W241.slot (F227.k (F219.k e211 gA0 (by decide) rfl) gA0 (by decide) rfl) (by decide)) gA0 (by decide) rfl) e247 e249 e251 (F245.k W241.at gA0 (by decide) rfl) (by omega) (by omega) (by omega))
            · have b236 : 1 ≤ v228 ∧ v228 ≤ 7 := by omega
              refine w_t (np := 175) (l2 := [some (eR a0), some (eI (v1)), some (eI (pl)), some (eI (v45)), some (eI (v65)), some (eI (v85)), some (eI (v105)), some (eI (v146)), some (eI (v187)), some (eI (v228))]) (s2 := [eR a0]) rfl (s_an rfl (pos_g I226 gA0 (by decide))) rfl ?_
              refine w_t (np := 177) (l2 := [some (eR a0), some (eI (v1)), some (eI (pl)), some (eI (v45)), some (eI (v65)), some (eI (v85)), some (eI (v105)), some (eI (v146)), some (eI (v187)), some (eI (v228))]) (s2 := [eI (v228), eR a0]) rfl rfl rfl ?_
              refine j_pf (np := 180) (w := v228) rfl rfl I226 gA0 (by decide) (n := 69) rfl rfl (hO_i (lo := 0) (hi := 8) rfl (by omega)) ?_
              intro m236 I237 W238
              have F239 : Fr l_352 0 0 g μ m236 := F233.w W238 gA0 rfl
              refine w_t (np := 181) (l2 := [some (eR a0), some (eI (v1)), some (eI (pl)), some (eI (v45)), some (eI (v65)), some (eI (v85)), some (eI (v105)), some (eI (v146)), some (eI (v187)), some (eI (v228))]) (s2 := [eR a0]) rfl (s_an rfl (pos_g I237 gA0 (by decide))) rfl ?_
              refine w_t (np := 182) (l2 := [some (eR a0), some (eI (v1)), some (eI (pl)), some (eI (v45)), some (eI (v65)), some (eI (v85)), some (eI (v105)), some (eI (v146)), some (eI (v187)), some (eI (v228))]) (s2 := [eI (pl), eR a0]) rfl rfl rfl ?_
              refine j_pf (np := 185) (w := pl) rfl rfl I237 gA0 (by decide) (n := 69) rfl rfl (hO_i (lo := -2147483648) (hi := 2147483647) rfl (by omega)) ?_
              intro m240 I241 W242
              have F243 : Fr l_352 0 0 g μ m240 := F239.w W242 gA0 rfl
              exact v_rv rfl rfl (K m240 (v228) (v191) (v193) (v195) (v230) I241 F243 (W242.slot W238.at (by decide)) (W242.slot (W238.slot (F227.k (F219.k (F209.k e192 gA0 (by decide) rfl) gA0 (by decide) rfl) gA0 (by decide) rfl) (by decide)) (by decide)) (W242.slot (W238.slot (F227.k (F219.k (F209.k e194 gA0 (by decide) rfl) gA0 (by decide) rfl) gA0 (by decide) rfl) (by decide)) (by decide)) (W242.slot (W238.slot (F227.k (F219.k (F209.k e196 gA0 (by decide) rfl) gA0 (by decide) rfl) gA0 (by decide) rfl) (by decide)) (by decide)) (W242.slot (W238.slot e231 (by decide)) (by decide)) (by omega) (by omega) (by omega))
          · have b216 : 1 ≤ v210 ∧ v210 ≤ 8 := by omega
            exact v_rv rfl rfl (K m207 (v210) (v191) (v193) (v195) (rh) I208 F213 e211 (F209.k e192 gA0 (by decide) rfl) (F209.k e194 gA0 (by decide) rfl) (F209.k e196 gA0 (by decide) rfl) (F209.k (F186.k (F168.k (F145.k (F127.k (F104.k (F84.k (F64.k (F44.k (F29.k (F20.k (F11.k h_rh gA0 (by decide) rfl) gA0 (by decide) rfl) gA0 (by decide) rfl) gA0 (by decide) rfl) gA0 (by decide) rfl) gA0 (by decide) rfl) gA0 (by decide) rfl) gA0 (by decide) rfl) gA0 (by decide) rfl) gA0 (by decide) rfl) gA0 (by decide) rfl) gA0 (by decide) rfl) (by omega) (by omega) (by omega))
        · have b27 : 1 ≤ v21 ∧ v21 ≤ 8 := by omega
          exact v_rv rfl rfl (K m18 (v21) (so) (pl) (th) (rh) I19 F24 e22 (F20.k (F11.k h_so gA0 (by decide) rfl) gA0 (by decide) rfl) (F20.k (F11.k h_pl gA0 (by decide) rfl) gA0 (by decide) rfl) (F20.k (F11.k h_th gA0 (by decide) rfl) gA0 (by decide) rfl) (F20.k (F11.k h_rh gA0 (by decide) rfl) gA0 (by decide) rfl) (by omega) (by omega) (by omega))
    · have b9 : 1 ≤ v5 ∧ v5 ≤ 1 := by omega
      refine w_t (np := 20) (l2 := [some (eR a0), some (eI (v1)), none, none, none, none, none, none, none, none]) (s2 := [eI (1), eR a0]) rfl rfl rfl ?_
      refine w_go (t1 := 24) rfl rfl ?_
      refine w_t (np := 25) (l2 := [some (eR a0), some (eI (v1)), none, none, none, none, none, none, none, none]) (s2 := [eI (2), eI (1), eR a0]) rfl rfl rfl ?_
      refine w_cw (np := 28) (as := [eI (1), eI (2)]) (l2 := [some (eR a0), some (eI (1)), some (eI (2))]) (rest := []) rfl rfl rfl (Nat.ble_eq.mp rfl) rfl rfl rfl (hI.kd gA0 (by decide) (n := 69) rfl) rfl ?_
      refine s_346 (a1 := 1) (a2 := 2) hI gA0 (by decide) (by decide) h_wr ?_
      intro m9 v12 I10 F11 e13 h14
      have F15 : Fr l_352 0 0 g μ m9 := F0.t F11 rfl
      have b16 : 0 ≤ v12 ∧ v12 ≤ 8 := by
        rw [← e13]
        exact I10.int gA0 (by decide) (n := 69) rfl (by decide) rfl
      show ex_q (dt_fg L ρ) rc (d + 7, (352, 28, [some (eR a0), some (eI (v1)), none, none, none, none, none, none, none, none], []), f :: F, m9)
      refine w_t (np := 29) (l2 := [some (eR a0), some (eI (v1)), none, none, none, none, none, none, none, none]) (s2 := [eR a0]) rfl (s_an rfl (pos_g I10 gA0 (by decide))) rfl ?_
      refine w_t (np := 30) (l2 := [some (eR a0), some (eI (v1)), none, none, none, none, none, none, none, none]) (s2 := [eR a0, eR a0]) rfl (s_an rfl (pos_g I10 gA0 (by decide))) rfl ?_
      refine w_gf (np := 33) (v := eI (rh)) rfl rfl (I10.kd gA0 (by decide) (n := 69) rfl) (by rw [(F11.k h_rh gA0 (by decide) rfl)]; rfl) ?_
      refine w_t (np := 35) (l2 := [some (eR a0), some (eI (v1)), none, none, none, none, none, none, none, none]) (s2 := [eI (24), eI (rh), eR a0]) rfl rfl rfl ?_
      refine b_cge (t1 := 42) (t2 := 38) rfl rfl rfl (ev_w_in (by omega) (by omega)) rfl (fun g17 => ?_) (fun g17 => ?_)
      · have b18 : 24 ≤ rh ∧ rh ≤ 24 := by omega
        refine w_t (np := 43) (l2 := [some (eR a0), some (eI (v1)), none, none, none, none, none, none, none, none]) (s2 := [eI (0), eR a0]) rfl rfl rfl ?_
        refine w_t (np := 44) (l2 := [some (eR a0), some (eI (v1)), none, none, none, none, none, none, none, none]) (s2 := [eI (4), eI (0), eR a0]) rfl rfl rfl ?_
        refine w_cw (np := 47) (as := [eI (0), eI (4)]) (l2 := [some (eR a0), some (eI (0)), some (eI (4))]) (rest := []) rfl rfl rfl (Nat.ble_eq.mp rfl) rfl rfl rfl (I10.kd gA0 (by decide) (n := 69) rfl) rfl ?_
        refine s_346 (a1 := 0) (a2 := 4) I10 gA0 (by decide) (by decide) e13 ?_
        intro m18 v21 I19 F20 e22 h23
        have F24 : Fr l_352 0 0 g μ m18 := F15.t F20 rfl
        have b25 : 0 ≤ v21 ∧ v21 ≤ 8 := by
          rw [← e22]
          exact I19.int gA0 (by decide) (n := 69) rfl (by decide) rfl
        show ex_q (dt_fg L ρ) rc (d + 7, (352, 47, [some (eR a0), some (eI (v1)), none, none, none, none, none, none, none, none], []), f :: F, m18)
        refine w_t (np := 48) (l2 := [some (eR a0), some (eI (v1)), none, none, none, none, none, none, none, none]) (s2 := [eR a0]) rfl (s_an rfl (pos_g I19 gA0 (by decide))) rfl ?_
        refine w_gf (np := 51) (v := eI (pl)) rfl rfl (I19.kd gA0 (by decide) (n := 69) rfl) (by rw [(F20.k (F11.k h_pl gA0 (by decide) rfl) gA0 (by decide) rfl)]; rfl) ?_
        refine w_t (np := 52) (l2 := [some (eR a0), some (eI (v1)), some (eI (pl)), none, none, none, none, none, none, none]) (s2 := []) rfl rfl rfl ?_
        refine w_t (np := 53) (l2 := [some (eR a0), some (eI (v1)), some (eI (pl)), none, none, none, none, none, none, none]) (s2 := [eR a0]) rfl (s_an rfl (pos_g I19 gA0 (by decide))) rfl ?_
        refine w_gf (np := 56) (v := eI (v21)) rfl rfl (I19.kd gA0 (by decide) (n := 69) rfl) (by rw [e22]; rfl) ?_
        refine b_ile (t1 := 60) (t2 := 59) rfl rfl rfl (ev_w_in (by omega) (by omega)) (fun g26 => ?_) (fun g26 => ?_)
        · have b27 : 0 ≤ v21 ∧ v21 ≤ 0 := by omega
          refine w_t (np := 61) (l2 := [some (eR a0), some (eI (v1)), some (eI (pl)), none, none, none, none, none, none, none]) (s2 := [eR a0]) rfl (s_an rfl (pos_g I19 gA0 (by decide))) rfl ?_
          refine w_cw (np := 64) (as := []) (l2 := [some (eR a0)]) (rest := []) rfl rfl rfl (Nat.ble_eq.mp rfl) rfl rfl rfl (I19.kd gA0 (by decide) (n := 69) rfl) rfl ?_
          refine s_345 I19 gA0 (F20.k (F11.k h_so gA0 (by decide) rfl) gA0 (by decide) rfl) (F20.k (F11.k h_pl gA0 (by decide) rfl) gA0 (by decide) rfl) (F20.k (F11.k h_th gA0 (by decide) rfl) gA0 (by decide) rfl) (by omega) ?_
          intro m27 v30 v32 v34 I28 F29 e31 e33 e35 h36 h37
          have F38 : Fr l_352 0 0 g μ m27 := F24.t F29 rfl
          have b39 : -2147483648 ≤ v30 ∧ v30 ≤ 2147483647 := by
            rw [← e31]
            exact I28.int gA0 (by decide) (n := 69) rfl (by decide) rfl
          have b40 : 0 ≤ v32 ∧ v32 ≤ 902 := by
            rw [← e33]
            exact I28.int gA0 (by decide) (n := 69) rfl (by decide) rfl
          have b41 : 0 ≤ v34 ∧ v34 ≤ 902 := by
            rw [← e35]
            exact I28.int gA0 (by decide) (n := 69) rfl (by decide) rfl
          clear hp2 hp3
          show ex_q (dt_fg L ρ) rc (d + 7, (352, 64, [some (eR a0), some (eI (v1)), some (eI (pl)), none, none, none, none, none, none, none], []), f :: F, m27)
          refine w_t (np := 65) (l2 := [some (eR a0), some (eI (v1)), some (eI (pl)), none, none, none, none, none, none, none]) (s2 := [eR a0]) rfl (s_an rfl (pos_g I28 gA0 (by decide))) rfl ?_
          refine w_cw (np := 68) (as := []) (l2 := [some (eR a0), none, none]) (rest := []) rfl rfl rfl (Nat.ble_eq.mp rfl) rfl rfl rfl (I28.kd gA0 (by decide) (n := 69) rfl) rfl ?_
          refine s_351 I28 gA0 (F29.k e22 gA0 (by decide) rfl) e31 e33 e35 (by omega) (by omega) ?_
          intro m42 v45 v47 v49 v51 v53 I43 F44 b46 e48 e50 e52 e54 h55 h56
          have F57 : Fr l_352 0 0 g μ m42 := F38.t F44 rfl
          have b58 : 0 ≤ v47 ∧ v47 ≤ 8 := by
            rw [← e48]
            exact I43.int gA0 (by decide) (n := 69) rfl (by decide) rfl
          have b59 : -2147483648 ≤ v49 ∧ v49 ≤ 2147483647 := by
            rw [← e50]
            exact I43.int gA0 (by decide) (n := 69) rfl (by decide) rfl
          have b60 : 0 ≤ v51 ∧ v51 ≤ 902 := by
            rw [← e52]
            exact I43.int gA0 (by decide) (n := 69) rfl (by decide) rfl
          have b61 : 0 ≤ v53 ∧ v53 ≤ 902 := by
            rw [← e54]
            exact I43.int gA0 (by decide) (n := 69) rfl (by decide) rfl
          clear h36 h37
          show ex_q (dt_fg L ρ) rc (d + 7, (352, 68, [some (eR a0), some (eI (v1)), some (eI (pl)), none, none, none, none, none, none, none], [eI (v45)]), f :: F, m42)
          refine w_t (np := 69) (l2 := [some (eR a0), some (eI (v1)), some (eI (pl)), some (eI (v45)), none, none, none, none, none, none]) (s2 := []) rfl rfl rfl ?_
          refine w_t (np := 70) (l2 := [some (eR a0), some (eI (v1)), some (eI (pl)), some (eI (v45)), none, none, none, none, none, none]) (s2 := [eR a0]) rfl (s_an rfl (pos_g I43 gA0 (by decide))) rfl ?_
          refine w_cw (np := 73) (as := []) (l2 := [some (eR a0), none, none]) (rest := []) rfl rfl rfl (Nat.ble_eq.mp rfl) rfl rfl rfl (I43.kd gA0 (by decide) (n := 69) rfl) rfl ?_
          refine s_351 I43 gA0 e48 e50 e52 e54 (by omega) (by omega) ?_
          intro m62 v65 v67 v69 v71 v73 I63 F64 b66 e68 e70 e72 e74 h75 h76
          have F77 : Fr l_352 0 0 g μ m62 := F57.t F64 rfl
          have b78 : 0 ≤ v67 ∧ v67 ≤ 8 := by
            rw [← e68]
            exact I63.int gA0 (by decide) (n := 69) rfl (by decide) rfl
          have b79 : -2147483648 ≤ v69 ∧ v69 ≤ 2147483647 := by
            rw [← e70]
            exact I63.int gA0 (by decide) (n := 69) rfl (by decide) rfl
          have b80 : 0 ≤ v71 ∧ v71 ≤ 902 := by
            rw [← e72]
            exact I63.int gA0 (by decide) (n := 69) rfl (by decide) rfl
          have b81 : 0 ≤ v73 ∧ v73 ≤ 902 := by
            rw [← e74]
            exact I63.int gA0 (by decide) (n := 69) rfl (by decide) rfl
          clear h55 h56
          show ex_q (dt_fg L ρ) rc (d + 7, (352, 73, [some (eR a0), some (eI (v1)), some (eI (pl)), some (eI (v45)), none, none, none, none, none, none], [eI (v65)]), f :: F, m62)
          refine w_t (np := 75) (l2 := [some (eR a0), some (eI (v1)), some (eI (pl)), some (eI (v45)), some (eI (v65)), none, none, none, none, none]) (s2 := []) rfl rfl rfl ?_
          refine w_t (np := 76) (l2 := [some (eR a0), some (eI (v1)), some (eI (pl)), some (eI (v45)), some (eI (v65)), none, none, none, none, none]) (s2 := [eR a0]) rfl (s_an rfl (pos_g I63 gA0 (by decide))) rfl ?_
          refine w_cw (np := 79) (as := []) (l2 := [some (eR a0), none, none]) (rest := []) rfl rfl rfl (Nat.ble_eq.mp rfl) rfl rfl rfl (I63.kd gA0 (by decide) (n := 69) rfl) rfl ?_
          refine s_351 I63 gA0 e68 e70 e72 e74 (by omega) (by omega) ?_
          intro m82 v85 v87 v89 v91 v93 I83 F84 b86 e88 e90 e92 e94 h95 h96
          have F97 : Fr l_352 0 0 g μ m82 := F77.t F84 rfl
          have b98 : 0 ≤ v87 ∧ v87 ≤ 8 := by
            rw [← e88]
            exact I83.int gA0 (by decide) (n := 69) rfl (by decide) rfl
          have b99 : -2147483648 ≤ v89 ∧ v89 ≤ 2147483647 := by
            rw [← e90]
            exact I83.int gA0 (by decide) (n := 69) rfl (by decide) rfl
          have b100 : 0 ≤ v91 ∧ v91 ≤ 902 := by
            rw [← e92]
            exact I83.int gA0 (by decide) (n := 69) rfl (by decide) rfl
          have b101 : 0 ≤ v93 ∧ v93 ≤ 902 := by
            rw [← e94]
            exact I83.int gA0 (by decide) (n := 69) rfl (by decide) rfl
          clear h75 h76
          show ex_q (dt_fg L ρ) rc (d + 7, (352, 79, [some (eR a0), some (eI (v1)), some (eI (pl)), some (eI (v45)), some (eI (v65)), none, none, none, none, none], [eI (v85)]), f :: F, m82)
          refine w_t (np := 81) (l2 := [some (eR a0), some (eI (v1)), some (eI (pl)), some (eI (v45)), some (eI (v65)), some (eI (v85)), none, none, none, none]) (s2 := []) rfl rfl rfl ?_
          refine w_t (np := 82) (l2 := [some (eR a0), some (eI (v1)), some (eI (pl)), some (eI (v45)), some (eI (v65)), some (eI (v85)), none, none, none, none]) (s2 := [eR a0]) rfl (s_an rfl (pos_g I83 gA0 (by decide))) rfl ?_
          refine w_cw (np := 85) (as := []) (l2 := [some (eR a0), none, none]) (rest := []) rfl rfl rfl (Nat.ble_eq.mp rfl) rfl rfl rfl (I83.kd gA0 (by decide) (n := 69) rfl) rfl ?_
          refine s_351 I83 gA0 e88 e90 e92 e94 (by omega) (by omega) ?_
          intro m102 v105 v107 v109 v111 v113 I103 F104 b106 e108 e110 e112 e114 h115 h116
          have F117 : Fr l_352 0 0 g μ m102 := F97.t F104 rfl
          have b118 : 0 ≤ v107 ∧ v107 ≤ 8 := by
            rw [← e108]
            exact I103.int gA0 (by decide) (n := 69) rfl (by decide) rfl
          have b119 : -2147483648 ≤ v109 ∧ v109 ≤ 2147483647 := by
            rw [← e110]
            exact I103.int gA0 (by decide) (n := 69) rfl (by decide) rfl
          have b120 : 0 ≤ v111 ∧ v111 ≤ 902 := by
            rw [← e112]
            exact I103.int gA0 (by decide) (n := 69) rfl (by decide) rfl
          have b121 : 0 ≤ v113 ∧ v113 ≤ 902 := by
            rw [← e114]
            exact I103.int gA0 (by decide) (n := 69) rfl (by decide) rfl
          clear h95 h96
          show ex_q (dt_fg L ρ) rc (d + 7, (352, 85, [some (eR a0), some (eI (v1)), some (eI (pl)), some (eI (v45)), some (eI (v65)), some (eI (v85)), none, none, none, none], [eI (v105)]), f :: F, m102)
          refine w_t (np := 87) (l2 := [some (eR a0), some (eI (v1)), some (eI (pl)), some (eI (v45)), some (eI (v65)), some (eI (v85)), some (eI (v105)), none, none, none]) (s2 := []) rfl rfl rfl ?_
          refine w_t (np := 88) (l2 := [some (eR a0), some (eI (v1)), some (eI (pl)), some (eI (v45)), some (eI (v65)), some (eI (v85)), some (eI (v105)), none, none, none]) (s2 := [eR a0]) rfl (s_an rfl (pos_g I103 gA0 (by decide))) rfl ?_
          refine w_t (np := 89) (l2 := [some (eR a0), some (eI (v1)), some (eI (pl)), some (eI (v45)), some (eI (v65)), some (eI (v85)), some (eI (v105)), none, none, none]) (s2 := [eR a0, eR a0]) rfl (s_an rfl (pos_g I103 gA0 (by decide))) rfl ?_
          refine w_t (np := 90) (l2 := [some (eR a0), some (eI (v1)), some (eI (pl)), some (eI (v45)), some (eI (v65)), some (eI (v85)), some (eI (v105)), none, none, none]) (s2 := [eI (2), eR a0, eR a0]) rfl rfl rfl ?_
          refine w_cw (np := 93) (as := [eI (2)]) (l2 := [some (eR a0), some (eI (2))]) (rest := [eR a0]) rfl rfl rfl (Nat.ble_eq.mp rfl) rfl rfl rfl (I103.kd gA0 (by decide) (n := 69) rfl) rfl ?_
          refine s_347 (a1 := 2) I103 gA0 (by decide) e108 e110 ?_
          intro v122 b123 h124
          show ex_q (dt_fg L ρ) rc (d + 7, (352, 93, [some (eR a0), some (eI (v1)), some (eI (pl)), some (eI (v45)), some (eI (v65)), some (eI (v85)), some (eI (v105)), none, none, none], [eI (v122), eR a0]), f :: F, m102)
          refine w_cw (np := 96) (as := [eI (v122)]) (l2 := [some (eR a0), some (eI (v122))]) (rest := []) rfl rfl rfl (Nat.ble_eq.mp rfl) rfl rfl rfl (I103.kd gA0 (by decide) (n := 69) rfl) rfl ?_
          refine s_349 (a1 := v122) I103 gA0 (by omega) e108 e110 e112 e114 (by omega) (by omega) (by omega) ?_
          intro m125 v128 v130 v132 v134 I126 F127 e129 e131 e133 e135 h136 h137
          have F138 : Fr l_352 0 0 g μ m125 := F117.t F127 rfl
          have b139 : 0 ≤ v128 ∧ v128 ≤ 8 := by
            rw [← e129]
            exact I126.int gA0 (by decide) (n := 69) rfl (by decide) rfl
          have b140 : -2147483648 ≤ v130 ∧ v130 ≤ 2147483647 := by
            rw [← e131]
            exact I126.int gA0 (by decide) (n := 69) rfl (by decide) rfl
          have b141 : 0 ≤ v132 ∧ v132 ≤ 902 := by
            rw [← e133]
            exact I126.int gA0 (by decide) (n := 69) rfl (by decide) rfl
          have b142 : 0 ≤ v134 ∧ v134 ≤ 902 := by
            rw [← e135]
            exact I126.int gA0 (by decide) (n := 69) rfl (by decide) rfl
          clear h115 h116
          show ex_q (dt_fg L ρ) rc (d + 7, (352, 96, [some (eR a0), some (eI (v1)), some (eI (pl)), some (eI (v45)), some (eI (v65)), some (eI (v85)), some (eI (v105)), none, none, none], []), f :: F, m125)
          refine w_t (np := 97) (l2 := [some (eR a0), some (eI (v1)), some (eI (pl)), some (eI (v45)), some (eI (v65)), some (eI (v85)), some (eI (v105)), none, none, none]) (s2 := [eR a0]) rfl (s_an rfl (pos_g I126 gA0 (by decide))) rfl ?_
          refine w_t (np := 99) (l2 := [some (eR a0), some (eI (v1)), some (eI (pl)), some (eI (v45)), some (eI (v65)), some (eI (v85)), some (eI (v105)), none, none, none]) (s2 := [eI (9), eR a0]) rfl rfl rfl ?_
          refine w_cw (np := 102) (as := [eI (9)]) (l2 := [some (eR a0), some (eI (9)), none]) (rest := []) rfl rfl rfl (Nat.ble_eq.mp rfl) rfl rfl rfl (I126.kd gA0 (by decide) (n := 69) rfl) rfl ?_
          refine s_350 (a1 := 9) I126 gA0 (by decide) e129 e131 e133 e135 (by omega) (by omega) ?_
          intro m143 v146 v148 v150 v152 v154 I144 F145 b147 e149 e151 e153 e155 h156 h157
          have F158 : Fr l_352 0 0 g μ m143 := F138.t F145 rfl
          have b159 : 0 ≤ v148 ∧ v148 ≤ 8 := by
            rw [← e149]
            exact I144.int gA0 (by decide) (n := 69) rfl (by decide) rfl
          have b160 : -2147483648 ≤ v150 ∧ v150 ≤ 2147483647 := by
            rw [← e151]
            exact I144.int gA0 (by decide) (n := 69) rfl (by decide) rfl
          have b161 : 0 ≤ v152 ∧ v152 ≤ 902 := by
            rw [← e153]
            exact I144.int gA0 (by decide) (n := 69) rfl (by decide) rfl
          have b162 : 0 ≤ v154 ∧ v154 ≤ 902 := by
            rw [← e155]
            exact I144.int gA0 (by decide) (n := 69) rfl (by decide) rfl
          clear h136 h137
          show ex_q (dt_fg L ρ) rc (d + 7, (352, 102, [some (eR a0), some (eI (v1)), some (eI (pl)), some (eI (v45)), some (eI (v65)), some (eI (v85)), some (eI (v105)), none, none, none], [eI (v146)]), f :: F, m143)
          refine w_t (np := 104) (l2 := [some (eR a0), some (eI (v1)), some (eI (pl)), some (eI (v45)), some (eI (v65)), some (eI (v85)), some (eI (v105)), some (eI (v146)), none, none]) (s2 := []) rfl rfl rfl ?_
          refine w_t (np := 105) (l2 := [some (eR a0), some (eI (v1)), some (eI (pl)), some (eI (v45)), some (eI (v65)), some (eI (v85)), some (eI (v105)), some (eI (v146)), none, none]) (s2 := [eR a0]) rfl (s_an rfl (pos_g I144 gA0 (by decide))) rfl ?_
          refine w_t (np := 106) (l2 := [some (eR a0), some (eI (v1)), some (eI (pl)), some (eI (v45)), some (eI (v65)), some (eI (v85)), some (eI (v105)), some (eI (v146)), none, none]) (s2 := [eR a0, eR a0]) rfl (s_an rfl (pos_g I144 gA0 (by decide))) rfl ?_
          refine w_t (np := 107) (l2 := [some (eR a0), some (eI (v1)), some (eI (pl)), some (eI (v45)), some (eI (v65)), some (eI (v85)), some (eI (v105)), some (eI (v146)), none, none]) (s2 := [eI (3), eR a0, eR a0]) rfl rfl rfl ?_
          refine w_cw (np := 110) (as := [eI (3)]) (l2 := [some (eR a0), some (eI (3))]) (rest := [eR a0]) rfl rfl rfl (Nat.ble_eq.mp rfl) rfl rfl rfl (I144.kd gA0 (by decide) (n := 69) rfl) rfl ?_
          refine s_347 (a1 := 3) I144 gA0 (by decide) e149 e151 ?_
          intro v163 b164 h165
          show ex_q (dt_fg L ρ) rc (d + 7, (352, 110, [some (eR a0), some (eI (v1)), some (eI (pl)), some (eI (v45)), some (eI (v65)), some (eI (v85)), some (eI (v105)), some (eI (v146)), none, none], [eI (v163), eR a0]), f :: F, m143)
          refine w_cw (np := 113) (as := [eI (v163)]) (l2 := [some (eR a0), some (eI (v163))]) (rest := []) rfl rfl rfl (Nat.ble_eq.mp rfl) rfl rfl rfl (I144.kd gA0 (by decide) (n := 69) rfl) rfl ?_
          refine s_349 (a1 := v163) I144 gA0 (by omega) e149 e151 e153 e155 (by omega) (by omega) (by omega) ?_
          intro m166 v169 v171 v173 v175 I167 F168 e170 e172 e174 e176 h177 h178
          have F179 : Fr l_352 0 0 g μ m166 := F158.t F168 rfl
          have b180 : 0 ≤ v169 ∧ v169 ≤ 8 := by
            rw [← e170]
            exact I167.int gA0 (by decide) (n := 69) rfl (by decide) rfl
          have b181 : -2147483648 ≤ v171 ∧ v171 ≤ 2147483647 := by
            rw [← e172]
            exact I167.int gA0 (by decide) (n := 69) rfl (by decide) rfl
          have b182 : 0 ≤ v173 ∧ v173 ≤ 902 := by
            rw [← e174]
            exact I167.int gA0 (by decide) (n := 69) rfl (by decide) rfl
          have b183 : 0 ≤ v175 ∧ v175 ≤ 902 := by
            rw [← e176]
            exact I167.int gA0 (by decide) (n := 69) rfl (by decide) rfl
          clear h156 h157
          show ex_q (dt_fg L ρ) rc (d + 7, (352, 113, [some (eR a0), some (eI (v1)), some (eI (pl)), some (eI (v45)), some (eI (v65)), some (eI (v85)), some (eI (v105)), some (eI (v146)), none, none], []), f :: F, m166)
          refine w_t (np := 114) (l2 := [some (eR a0), some (eI (v1)), some (eI (pl)), some (eI (v45)), some (eI (v65)), some (eI (v85)), some (eI (v105)), some (eI (v146)), none, none]) (s2 := [eR a0]) rfl (s_an rfl (pos_g I167 gA0 (by decide))) rfl ?_
          refine w_t (np := 115) (l2 := [some (eR a0), some (eI (v1)), some (eI (pl)), some (eI (v45)), some (eI (v65)), some (eI (v85)), some (eI (v105)), some (eI (v146)), none, none]) (s2 := [eI (1), eR a0]) rfl rfl rfl ?_
          refine w_cw (np := 118) (as := [eI (1)]) (l2 := [some (eR a0), some (eI (1)), none]) (rest := []) rfl rfl rfl (Nat.ble_eq.mp rfl) rfl rfl rfl (I167.kd gA0 (by decide) (n := 69) rfl) rfl ?_
          refine s_350 (a1 := 1) I167 gA0 (by decide) e170 e172 e174 e176 (by omega) (by omega) ?_
          intro m184 v187 v189 v191 v193 v195 I185 F186 b188 e190 e192 e194 e196 h197 h198
          have F199 : Fr l_352 0 0 g μ m184 := F179.t F186 rfl
          have b200 : 0 ≤ v189 ∧ v189 ≤ 8 := by
            rw [← e190]
            exact I185.int gA0 (by decide) (n := 69) rfl (by decide) rfl
          have b201 : -2147483648 ≤ v191 ∧ v191 ≤ 2147483647 := by
            rw [← e192]
            exact I185.int gA0 (by decide) (n := 69) rfl (by decide) rfl
          have b202 : 0 ≤ v193 ∧ v193 ≤ 902 := by
            rw [← e194]
            exact I185.int gA0 (by decide) (n := 69) rfl (by decide) rfl
          have b203 : 0 ≤ v195 ∧ v195 ≤ 902 := by
            rw [← e196]
            exact I185.int gA0 (by decide) (n := 69) rfl (by decide) rfl
          clear h177 h178
          show ex_q (dt_fg L ρ) rc (d + 7, (352, 118, [some (eR a0), some (eI (v1)), some (eI (pl)), some (eI (v45)), some (eI (v65)), some (eI (v85)), some (eI (v105)), some (eI (v146)), none, none], [eI (v187)]), f :: F, m184)
          refine w_t (np := 120) (l2 := [some (eR a0), some (eI (v1)), some (eI (pl)), some (eI (v45)), some (eI (v65)), some (eI (v85)), some (eI (v105)), some (eI (v146)), some (eI (v187)), none]) (s2 := []) rfl rfl rfl ?_
          refine w_t (np := 121) (l2 := [some (eR a0), some (eI (v1)), some (eI (pl)), some (eI (v45)), some (eI (v65)), some (eI (v85)), some (eI (v105)), some (eI (v146)), some (eI (v187)), none]) (s2 := [eR a0]) rfl (s_an rfl (pos_g I185 gA0 (by decide))) rfl ?_
          refine w_t (np := 122) (l2 := [some (eR a0), some (eI (v1)), some (eI (pl)), some (eI (v45)), some (eI (v65)), some (eI (v85)), some (eI (v105)), some (eI (v146)), some (eI (v187)), none]) (s2 := [eR a0, eR a0]) rfl (s_an rfl (pos_g I185 gA0 (by decide))) rfl ?_
          refine w_t (np := 124) (l2 := [some (eR a0), some (eI (v1)), some (eI (pl)), some (eI (v45)), some (eI (v65)), some (eI (v85)), some (eI (v105)), some (eI (v146)), some (eI (v187)), none]) (s2 := [eI (59), eR a0, eR a0]) rfl rfl rfl ?_
          refine w_cw (np := 127) (as := [eI (59)]) (l2 := [some (eR a0), some (eI (59))]) (rest := [eR a0]) rfl rfl rfl (Nat.ble_eq.mp rfl) rfl rfl rfl (I185.kd gA0 (by decide) (n := 69) rfl) rfl ?_
          refine s_348 (a1 := 59) I185 gA0 (by decide) e190 e192 e194 (by omega) ?_
          intro v204 b205 h206
          show ex_q (dt_fg L ρ) rc (d + 7, (352, 127, [some (eR a0), some (eI (v1)), some (eI (pl)), some (eI (v45)), some (eI (v65)), some (eI (v85)), some (eI (v105)), some (eI (v146)), some (eI (v187)), none], [eI (v204), eR a0]), f :: F, m184)
          refine w_t (np := 128) (l2 := [some (eR a0), some (eI (v1)), some (eI (pl)), some (eI (v45)), some (eI (v65)), some (eI (v85)), some (eI (v105)), some (eI (v146)), some (eI (v187)), none]) (s2 := [eI (2), eI (v204), eR a0]) rfl rfl rfl ?_
          refine w_cw (np := 131) (as := [eI (v204), eI (2)]) (l2 := [some (eR a0), some (eI (v204)), some (eI (2))]) (rest := []) rfl rfl rfl (Nat.ble_eq.mp rfl) rfl rfl rfl (I185.kd gA0 (by decide) (n := 69) rfl) rfl ?_
          refine s_346 (a1 := v204) (a2 := 2) I185 gA0 (by omega) (by decide) e190 ?_
          intro m207 v210 I208 F209 e211 h212
          have F213 : Fr l_352 0 0 g μ m207 := F199.t F209 rfl
          have b214 : 0 ≤ v210 ∧ v210 ≤ 8 := by
            rw [← e211]
            exact I208.int gA0 (by decide) (n := 69) rfl (by decide) rfl
          show ex_q (dt_fg L ρ) rc (d + 7, (352, 131, [some (eR a0), some (eI (v1)), some (eI (pl)), some (eI (v45)), some (eI (v65)), some (eI (v85)), some (eI (v105)), some (eI (v146)), some (eI (v187)), none], []), f :: F, m207)
          refine w_t (np := 132) (l2 := [some (eR a0), some (eI (v1)), some (eI (pl)), some (eI (v45)), some (eI (v65)), some (eI (v85)), some (eI (v105)), some (eI (v146)), some (eI (v187)), none]) (s2 := [eR a0]) rfl (s_an rfl (pos_g I208 gA0 (by decide))) rfl ?_
          refine w_gf (np := 135) (v := eI (v210)) rfl rfl (I208.kd gA0 (by decide) (n := 69) rfl) (by rw [e211]; rfl) ?_
          refine b_ile (t1 := 139) (t2 := 138) rfl rfl rfl (ev_w_in (by omega) (by omega)) (fun g215 => ?_) (fun g215 => ?_)
          · have b216 : 0 ≤ v210 ∧ v210 ≤ 0 := by omega
            refine w_t (np := 140) (l2 := [some (eR a0), some (eI (v1)), some (eI (pl)), some (eI (v45)), some (eI (v65)), some (eI (v85)), some (eI (v105)), some (eI (v146)), some (eI (v187)), none]) (s2 := [eR a0]) rfl (s_an rfl (pos_g I208 gA0 (by decide))) rfl ?_
            refine w_t (np := 141) (l2 := [some (eR a0), some (eI (v1)), some (eI (pl)), some (eI (v45)), some (eI (v65)), some (eI (v85)), some (eI (v105)), some (eI (v146)), some (eI (v187)), none]) (s2 := [eI (v1), eR a0]) rfl rfl rfl ?_
            refine b_ieq (t1 := 148) (t2 := 144) rfl rfl rfl (ev_w_in (by omega) (by omega)) (fun g216 => ?_) (fun g216 => False.elim (by omega))
            refine w_t (np := 149) (l2 := [some (eR a0), some (eI (v1)), some (eI (pl)), some (eI (v45)), some (eI (v65)), some (eI (v85)), some (eI (v105)), some (eI (v146)), some (eI (v187)), none]) (s2 := [eI (0), eR a0]) rfl rfl rfl ?_
            refine w_t (np := 150) (l2 := [some (eR a0), some (eI (v1)), some (eI (pl)), some (eI (v45)), some (eI (v65)), some (eI (v85)), some (eI (v105)), some (eI (v146)), some (eI (v187)), none]) (s2 := [eI (v45), eI (0), eR a0]) rfl rfl rfl ?_
            refine w_t (np := 152) (l2 := [some (eR a0), some (eI (v1)), some (eI (pl)), some (eI (v45)), some (eI (v65)), some (eI (v85)), some (eI (v105)), some (eI (v146)), some (eI (v187)), none]) (s2 := [eI (v65), eI (v45), eI (0), eR a0]) rfl rfl rfl ?_
            refine w_t (np := 154) (l2 := [some (eR a0), some (eI (v1)), some (eI (pl)), some (eI (v45)), some (eI (v65)), some (eI (v85)), some (eI (v105)), some (eI (v146)), some (eI (v187)), none]) (s2 := [eI (v85), eI (v65), eI (v45), eI (0), eR a0]) rfl rfl rfl ?_
            refine w_t (np := 156) (l2 := [some (eR a0), some (eI (v1)), some (eI (pl)), some (eI (v45)), some (eI (v65)), some (eI (v85)), some (eI (v105)), some (eI (v146)), some (eI (v187)), none]) (s2 := [eI (v105), eI (v85), eI (v65), eI (v45), eI (0), eR a0]) rfl rfl rfl ?_
            refine w_t (np := 158) (l2 := [some (eR a0), some (eI (v1)), some (eI (pl)), some (eI (v45)), some (eI (v65)), some (eI (v85)), some (eI (v105)), some (eI (v146)), some (eI (v187)), none]) (s2 := [eI (v146), eI (v105), eI (v85), eI (v65), eI (v45), eI (0), eR a0]) rfl rfl rfl ?_
            refine w_t (np := 160) (l2 := [some (eR a0), some (eI (v1)), some (eI (pl)), some (eI (v45)), some (eI (v65)), some (eI (v85)), some (eI (v105)), some (eI (v146)), some (eI (v187)), none]) (s2 := [eI (v187), eI (v146), eI (v105), eI (v85), eI (v65), eI (v45), eI (0), eR a0]) rfl rfl rfl ?_
            refine w_cw (np := 163) (as := [eI (0), eI (v45), eI (v65), eI (v85), eI (v105), eI (v146), eI (v187)]) (l2 := [some (eR a0), some (eI (0)), some (eI (v45)), some (eI (v65)), some (eI (v85)), some (eI (v105)), some (eI (v146)), some (eI (v187)), none]) (rest := []) rfl rfl rfl (Nat.ble_eq.mp rfl) rfl rfl rfl (I208.kd gA0 (by decide) (n := 69) rfl) rfl ?_
            refine s_312 (a1 := 0) (a2 := v45) (a3 := v65) (a4 := v85) (a5 := v105) (a6 := v146) (a7 := v187) I208 gA0 (by decide) (by omega) (by omega) (by omega) (by omega) (by omega) (by omega) (F209.k (F186.k (F168.k (F145.k (F127.k (F104.k (F84.k (F64.k (F44.k (F29.k (F20.k (F11.k h_rh gA0 (by decide) rfl) gA0 (by decide) rfl) gA0 (by decide) rfl) gA0 (by decide) rfl) gA0 (by decide) rfl) gA0 (by decide) rfl) gA0 (by decide) rfl) gA0 (by decide) rfl) gA0 (by decide) rfl) gA0 (by decide) rfl) gA0 (by decide) rfl) gA0 (by decide) rfl) (by omega) ?_
            intro m217 v220 I218 F219 e221 h222
            have F223 : Fr l_352 0 0 g μ m217 := F213.t F219 rfl
            have b224 : 0 ≤ v220 ∧ v220 ≤ 24 := by
              rw [← e221]
              exact I218.int gA0 (by decide) (n := 69) rfl (by decide) rfl
            show ex_q (dt_fg L ρ) rc (d + 7, (352, 163, [some (eR a0), some (eI (v1)), some (eI (pl)), some (eI (v45)), some (eI (v65)), some (eI (v85)), some (eI (v105)), some (eI (v146)), some (eI (v187)), none], []), f :: F, m217)
            refine w_t (np := 164) (l2 := [some (eR a0), some (eI (v1)), some (eI (pl)), some (eI (v45)), some (eI (v65)), some (eI (v85)), some (eI (v105)), some (eI (v146)), some (eI (v187)), none]) (s2 := [eR a0]) rfl (s_an rfl (pos_g I218 gA0 (by decide))) rfl ?_
            refine w_cw (np := 167) (as := []) (l2 := [some (eR a0), none, none, none, none]) (rest := []) rfl rfl rfl (Nat.ble_eq.mp rfl) rfl rfl rfl (I218.kd gA0 (by decide) (n := 69) rfl) rfl ?_
            refine s_311 I218 gA0 e221 (by omega) ?_
            intro m225 v228 v230 I226 F227 b229 e231 h232
            have F233 : Fr l_352 0 0 g μ m225 := F223.t F227 rfl
            have b234 : 0 ≤ v230 ∧ v230 ≤ 24 := by
              rw [← e231]
              exact I226.int gA0 (by decide) (n := 69) rfl (by decide) rfl
            show ex_q (dt_fg L ρ) rc (d + 7, (352, 167, [some (eR a0), some (eI (v1)), some (eI (pl)), some (eI (v45)), some (eI (v65)), some (eI (v85)), some (eI (v105)), some (eI (v146)), some (eI (v187)), none], [eI (v228)]), f :: F, m225)
            refine w_t (np := 169) (l2 := [some (eR a0), some (eI (v1)), some (eI (pl)), some (eI (v45)), some (eI (v65)), some (eI (v85)), some (eI (v105)), some (eI (v146)), some (eI (v187)), some (eI (v228))]) (s2 := []) rfl rfl rfl ?_
            refine w_t (np := 171) (l2 := [some (eR a0), some (eI (v1)), some (eI (pl)), some (eI (v45)), some (eI (v65)), some (eI (v85)), some (eI (v105)), some (eI (v146)), some (eI (v187)), some (eI (v228))]) (s2 := [eI (v228)]) rfl rfl rfl ?_
            refine b_ile (t1 := 186) (t2 := 174) rfl rfl rfl (ev_w_in (by omega) (by omega)) (fun g235 => ?_) (fun g235 => ?_)
            · have b236 : 0 ≤ v228 ∧ v228 ≤ 0 := by omega
              refine w_t (np := 187) (l2 := [some (eR a0), some (eI (v1)), some (eI (pl)), some (eI (v45)), some (eI (v65)), some (eI (v85)), some (eI (v105)), some (eI (v146)), some (eI (v187)), some (eI (v228))]) (s2 := [eR a0]) rfl (s_an rfl (pos_g I226 gA0 (by decide))) rfl ?_
              refine w_t (np := 188) (l2 := [some (eR a0), some (eI (v1)), some (eI (pl)), some (eI (v45)), some (eI (v65)), some (eI (v85)), some (eI (v105)), some (eI (v146)), some (eI (v187)), some (eI (v228))]) (s2 := [eR a0, eR a0]) rfl rfl rfl ?_
              refine w_gf (np := 191) (v := eI (v230)) rfl rfl (I226.kd gA0 (by decide) (n := 69) rfl) (by rw [e231]; rfl) ?_
              refine w_t (np := 192) (l2 := [some (eR a0), some (eI (v1)), some (eI (pl)), some (eI (v45)), some (eI (v65)), some (eI (v85)), some (eI (v105)), some (eI (v146)), some (eI (v187)), some (eI (v228))]) (s2 := [eI (1), eI (v230), eR a0]) rfl rfl rfl ?_
              obtain ⟨v236, e237⟩ : ∃ zz : Int, zz = (v230) + (1) := ⟨_, rfl⟩
              have b238 : 1 ≤ v236 ∧ v236 ≤ 25 := by omega
              refine w_t (np := 193) (l2 := [some (eR a0), some (eI (v1)), some (eI (pl)), some (eI (v45)), some (eI (v65)), some (eI (v85)), some (eI (v105)), some (eI (v146)), some (eI (v187)), some (eI (v228))]) (s2 := [eI (v236), eR a0]) rfl (b_iadd (by rw [← e237]; exact ev_w_in (by omega) (by omega))) rfl ?_
              refine j_pf (np := 196) (w := v236) rfl rfl I226 gA0 (by decide) (n := 69) rfl rfl (hO_i (lo := 0) (hi := 24) rfl (by omega)) ?_
              intro m239 I240 W241
              have F242 : Fr l_352 0 0 g μ m239 := F233.w W241 gA0 rfl
              refine w_t (np := 197) (l2 := [some (eR a0), some (eI (v1)), some (eI (pl)), some (eI (v45)), some (eI (v65)), some (eI (v85)), some (eI (v105)), some (eI (v146)), some (eI (v187)), some (eI (v228))]) (s2 := [eR a0]) rfl (s_an rfl (pos_g I240 gA0 (by decide))) rfl ?_
              refine w_cw (np := 200) (as := []) (l2 := [some (eR a0)]) (rest := []) rfl rfl rfl (Nat.ble_eq.mp rfl) rfl rfl rfl (I240.kd gA0 (by decide) (n := 69) rfl) rfl ?_
              refine s_345 I240 gA0 (W241.slot (F227.k (F219.k (F209.k e192 gA0 (by decide) rfl) gA0 (by decide) rfl) gA0 (by decide) rfl) (by decide)) (W241.slot (F227.k (F219.k (F209.k e194 gA0 (by decide) rfl) gA0 (by decide) rfl) gA0 (by decide) rfl) (by decide)) (W241.slot (F227.k (F219.k (F209.k e196 gA0 (by decide) rfl) gA0 (by decide) rfl) gA0 (by decide) rfl) (by decide)) (by omega) ?_
              intro m243 v246 v248 v250 I244 F245 e247 e249 e251 h252 h253
              have F254 : Fr l_352 0 0 g μ m243 := F242.t F245 rfl
              have b255 : -2147483648 ≤ v246 ∧ v246 ≤ 2147483647 := by
                rw [← e247]
                exact I244.int gA0 (by decide) (n := 69) rfl (by decide) rfl
              have b256 : 0 ≤ v248 ∧ v248 ≤ 902 := by
                rw [← e249]
                exact I244.int gA0 (by decide) (n := 69) rfl (by decide) rfl
              have b257 : 0 ≤ v250 ∧ v250 ≤ 902 := by
                rw [← e251]
                exact I244.int gA0 (by decide) (n := 69) rfl (by decide) rfl
              clear h197 h198
              show ex_q (dt_fg L ρ) rc (d + 7, (352, 200, [some (eR a0), some (eI (v1)), some (eI (pl)), some (eI (v45)), some (eI (v65)), some (eI (v85)), some (eI (v105)), some (eI (v146)), some (eI (v187)), some (eI (v228))], []), f :: F, m243)
              exact v_rv rfl rfl (K m243 (v210) (v246) (v248) (v250) (v236) I244 F254 (F245.k (W241.slot (F227.k (F219.k e211 gA0 (by decide) rfl) gA0 (by decide) rfl) (by decide)) gA0 (by decide) rfl) e247 e249 e251 (F245.k W241.at gA0 (by decide) rfl) (by omega) (by omega) (by omega))
            · have b236 : 1 ≤ v228 ∧ v228 ≤ 7 := by omega
              refine w_t (np := 175) (l2 := [some (eR a0), some (eI (v1)), some (eI (pl)), some (eI (v45)), some (eI (v65)), some (eI (v85)), some (eI (v105)), some (eI (v146)), some (eI (v187)), some (eI (v228))]) (s2 := [eR a0]) rfl (s_an rfl (pos_g I226 gA0 (by decide))) rfl ?_
              refine w_t (np := 177) (l2 := [some (eR a0), some (eI (v1)), some (eI (pl)), some (eI (v45)), some (eI (v65)), some (eI (v85)), some (eI (v105)), some (eI (v146)), some (eI (v187)), some (eI (v228))]) (s2 := [eI (v228), eR a0]) rfl rfl rfl ?_
              refine j_pf (np := 180) (w := v228) rfl rfl I226 gA0 (by decide) (n := 69) rfl rfl (hO_i (lo := 0) (hi := 8) rfl (by omega)) ?_
              intro m236 I237 W238
              have F239 : Fr l_352 0 0 g μ m236 := F233.w W238 gA0 rfl
              refine w_t (np := 181) (l2 := [some (eR a0), some (eI (v1)), some (eI (pl)), some (eI (v45)), some (eI (v65)), some (eI (v85)), some (eI (v105)), some (eI (v146)), some (eI (v187)), some (eI (v228))]) (s2 := [eR a0]) rfl (s_an rfl (pos_g I237 gA0 (by decide))) rfl ?_
              refine w_t (np := 182) (l2 := [some (eR a0), some (eI (v1)), some (eI (pl)), some (eI (v45)), some (eI (v65)), some (eI (v85)), some (eI (v105)), some (eI (v146)), some (eI (v187)), some (eI (v228))]) (s2 := [eI (pl), eR a0]) rfl rfl rfl ?_
              refine j_pf (np := 185) (w := pl) rfl rfl I237 gA0 (by decide) (n := 69) rfl rfl (hO_i (lo := -2147483648) (hi := 2147483647) rfl (by omega)) ?_
              intro m240 I241 W242
              have F243 : Fr l_352 0 0 g μ m240 := F239.w W242 gA0 rfl
              exact v_rv rfl rfl (K m240 (v228) (v191) (v193) (v195) (v230) I241 F243 (W242.slot W238.at (by decide)) (W242.slot (W238.slot (F227.k (F219.k (F209.k e192 gA0 (by decide) rfl) gA0 (by decide) rfl) gA0 (by decide) rfl) (by decide)) (by decide)) (W242.slot (W238.slot (F227.k (F219.k (F209.k e194 gA0 (by decide) rfl) gA0 (by decide) rfl) gA0 (by decide) rfl) (by decide)) (by decide)) (W242.slot (W238.slot (F227.k (F219.k (F209.k e196 gA0 (by decide) rfl) gA0 (by decide) rfl) gA0 (by decide) rfl) (by decide)) (by decide)) (W242.slot (W238.slot e231 (by decide)) (by decide)) (by omega) (by omega) (by omega))
          · have b216 : 1 ≤ v210 ∧ v210 ≤ 8 := by omega
            exact v_rv rfl rfl (K m207 (v210) (v191) (v193) (v195) (rh) I208 F213 e211 (F209.k e192 gA0 (by decide) rfl) (F209.k e194 gA0 (by decide) rfl) (F209.k e196 gA0 (by decide) rfl) (F209.k (F186.k (F168.k (F145.k (F127.k (F104.k (F84.k (F64.k (F44.k (F29.k (F20.k (F11.k h_rh gA0 (by decide) rfl) gA0 (by decide) rfl) gA0 (by decide) rfl) gA0 (by decide) rfl) gA0 (by decide) rfl) gA0 (by decide) rfl) gA0 (by decide) rfl) gA0 (by decide) rfl) gA0 (by decide) rfl) gA0 (by decide) rfl) gA0 (by decide) rfl) gA0 (by decide) rfl) (by omega) (by omega) (by omega))
        · have b27 : 1 ≤ v21 ∧ v21 ≤ 8 := by omega
          exact v_rv rfl rfl (K m18 (v21) (so) (pl) (th) (rh) I19 F24 e22 (F20.k (F11.k h_so gA0 (by decide) rfl) gA0 (by decide) rfl) (F20.k (F11.k h_pl gA0 (by decide) rfl) gA0 (by decide) rfl) (F20.k (F11.k h_th gA0 (by decide) rfl) gA0 (by decide) rfl) (F20.k (F11.k h_rh gA0 (by decide) rfl) gA0 (by decide) rfl) (by omega) (by omega) (by omega))
      · have b18 : 0 ≤ rh ∧ rh ≤ 23 := by omega
        refine w_t (np := 39) (l2 := [some (eR a0), some (eI (v1)), none, none, none, none, none, none, none, none]) (s2 := [eI (1), eR a0]) rfl rfl rfl ?_
        refine w_go (t1 := 43) rfl rfl ?_
        refine w_t (np := 44) (l2 := [some (eR a0), some (eI (v1)), none, none, none, none, none, none, none, none]) (s2 := [eI (4), eI (1), eR a0]) rfl rfl rfl ?_
        refine w_cw (np := 47) (as := [eI (1), eI (4)]) (l2 := [some (eR a0), some (eI (1)), some (eI (4))]) (rest := []) rfl rfl rfl (Nat.ble_eq.mp rfl) rfl rfl rfl (I10.kd gA0 (by decide) (n := 69) rfl) rfl ?_
        refine s_346 (a1 := 1) (a2 := 4) I10 gA0 (by decide) (by decide) e13 ?_
        intro m18 v21 I19 F20 e22 h23
        have F24 : Fr l_352 0 0 g μ m18 := F15.t F20 rfl
        have b25 : 0 ≤ v21 ∧ v21 ≤ 8 := by
          rw [← e22]
          exact I19.int gA0 (by decide) (n := 69) rfl (by decide) rfl
        show ex_q (dt_fg L ρ) rc (d + 7, (352, 47, [some (eR a0), some (eI (v1)), none, none, none, none, none, none, none, none], []), f :: F, m18)
        refine w_t (np := 48) (l2 := [some (eR a0), some (eI (v1)), none, none, none, none, none, none, none, none]) (s2 := [eR a0]) rfl (s_an rfl (pos_g I19 gA0 (by decide))) rfl ?_
        refine w_gf (np := 51) (v := eI (pl)) rfl rfl (I19.kd gA0 (by decide) (n := 69) rfl) (by rw [(F20.k (F11.k h_pl gA0 (by decide) rfl) gA0 (by decide) rfl)]; rfl) ?_
        refine w_t (np := 52) (l2 := [some (eR a0), some (eI (v1)), some (eI (pl)), none, none, none, none, none, none, none]) (s2 := []) rfl rfl rfl ?_
        refine w_t (np := 53) (l2 := [some (eR a0), some (eI (v1)), some (eI (pl)), none, none, none, none, none, none, none]) (s2 := [eR a0]) rfl (s_an rfl (pos_g I19 gA0 (by decide))) rfl ?_
        refine w_gf (np := 56) (v := eI (v21)) rfl rfl (I19.kd gA0 (by decide) (n := 69) rfl) (by rw [e22]; rfl) ?_
        refine b_ile (t1 := 60) (t2 := 59) rfl rfl rfl (ev_w_in (by omega) (by omega)) (fun g26 => ?_) (fun g26 => ?_)
        · have b27 : 0 ≤ v21 ∧ v21 ≤ 0 := by omega
          refine w_t (np := 61) (l2 := [some (eR a0), some (eI (v1)), some (eI (pl)), none, none, none, none, none, none, none]) (s2 := [eR a0]) rfl (s_an rfl (pos_g I19 gA0 (by decide))) rfl ?_
          refine w_cw (np := 64) (as := []) (l2 := [some (eR a0)]) (rest := []) rfl rfl rfl (Nat.ble_eq.mp rfl) rfl rfl rfl (I19.kd gA0 (by decide) (n := 69) rfl) rfl ?_
          refine s_345 I19 gA0 (F20.k (F11.k h_so gA0 (by decide) rfl) gA0 (by decide) rfl) (F20.k (F11.k h_pl gA0 (by decide) rfl) gA0 (by decide) rfl) (F20.k (F11.k h_th gA0 (by decide) rfl) gA0 (by decide) rfl) (by omega) ?_
          intro m27 v30 v32 v34 I28 F29 e31 e33 e35 h36 h37
          have F38 : Fr l_352 0 0 g μ m27 := F24.t F29 rfl
          have b39 : -2147483648 ≤ v30 ∧ v30 ≤ 2147483647 := by
            rw [← e31]
            exact I28.int gA0 (by decide) (n := 69) rfl (by decide) rfl
          have b40 : 0 ≤ v32 ∧ v32 ≤ 902 := by
            rw [← e33]
            exact I28.int gA0 (by decide) (n := 69) rfl (by decide) rfl
          have b41 : 0 ≤ v34 ∧ v34 ≤ 902 := by
            rw [← e35]
            exact I28.int gA0 (by decide) (n := 69) rfl (by decide) rfl
          clear hp2 hp3
          show ex_q (dt_fg L ρ) rc (d + 7, (352, 64, [some (eR a0), some (eI (v1)), some (eI (pl)), none, none, none, none, none, none, none], []), f :: F, m27)
          refine w_t (np := 65) (l2 := [some (eR a0), some (eI (v1)), some (eI (pl)), none, none, none, none, none, none, none]) (s2 := [eR a0]) rfl (s_an rfl (pos_g I28 gA0 (by decide))) rfl ?_
          refine w_cw (np := 68) (as := []) (l2 := [some (eR a0), none, none]) (rest := []) rfl rfl rfl (Nat.ble_eq.mp rfl) rfl rfl rfl (I28.kd gA0 (by decide) (n := 69) rfl) rfl ?_
          refine s_351 I28 gA0 (F29.k e22 gA0 (by decide) rfl) e31 e33 e35 (by omega) (by omega) ?_
          intro m42 v45 v47 v49 v51 v53 I43 F44 b46 e48 e50 e52 e54 h55 h56
          have F57 : Fr l_352 0 0 g μ m42 := F38.t F44 rfl
          have b58 : 0 ≤ v47 ∧ v47 ≤ 8 := by
            rw [← e48]
            exact I43.int gA0 (by decide) (n := 69) rfl (by decide) rfl
          have b59 : -2147483648 ≤ v49 ∧ v49 ≤ 2147483647 := by
            rw [← e50]
            exact I43.int gA0 (by decide) (n := 69) rfl (by decide) rfl
          have b60 : 0 ≤ v51 ∧ v51 ≤ 902 := by
            rw [← e52]
            exact I43.int gA0 (by decide) (n := 69) rfl (by decide) rfl
          have b61 : 0 ≤ v53 ∧ v53 ≤ 902 := by
            rw [← e54]
            exact I43.int gA0 (by decide) (n := 69) rfl (by decide) rfl
          clear h36 h37
          show ex_q (dt_fg L ρ) rc (d + 7, (352, 68, [some (eR a0), some (eI (v1)), some (eI (pl)), none, none, none, none, none, none, none], [eI (v45)]), f :: F, m42)
          refine w_t (np := 69) (l2 := [some (eR a0), some (eI (v1)), some (eI (pl)), some (eI (v45)), none, none, none, none, none, none]) (s2 := []) rfl rfl rfl ?_
          refine w_t (np := 70) (l2 := [some (eR a0), some (eI (v1)), some (eI (pl)), some (eI (v45)), none, none, none, none, none, none]) (s2 := [eR a0]) rfl (s_an rfl (pos_g I43 gA0 (by decide))) rfl ?_
          refine w_cw (np := 73) (as := []) (l2 := [some (eR a0), none, none]) (rest := []) rfl rfl rfl (Nat.ble_eq.mp rfl) rfl rfl rfl (I43.kd gA0 (by decide) (n := 69) rfl) rfl ?_
          refine s_351 I43 gA0 e48 e50 e52 e54 (by omega) (by omega) ?_
          intro m62 v65 v67 v69 v71 v73 I63 F64 b66 e68 e70 e72 e74 h75 h76
          have F77 : Fr l_352 0 0 g μ m62 := F57.t F64 rfl
          have b78 : 0 ≤ v67 ∧ v67 ≤ 8 := by
            rw [← e68]
            exact I63.int gA0 (by decide) (n := 69) rfl (by decide) rfl
          have b79 : -2147483648 ≤ v69 ∧ v69 ≤ 2147483647 := by
            rw [← e70]
            exact I63.int gA0 (by decide) (n := 69) rfl (by decide) rfl
          have b80 : 0 ≤ v71 ∧ v71 ≤ 902 := by
            rw [← e72]
            exact I63.int gA0 (by decide) (n := 69) rfl (by decide) rfl
          have b81 : 0 ≤ v73 ∧ v73 ≤ 902 := by
            rw [← e74]
            exact I63.int gA0 (by decide) (n := 69) rfl (by decide) rfl
          clear h55 h56
          show ex_q (dt_fg L ρ) rc (d + 7, (352, 73, [some (eR a0), some (eI (v1)), some (eI (pl)), some (eI (v45)), none, none, none, none, none, none], [eI (v65)]), f :: F, m62)
          refine w_t (np := 75) (l2 := [some (eR a0), some (eI (v1)), some (eI (pl)), some (eI (v45)), some (eI (v65)), none, none, none, none, none]) (s2 := []) rfl rfl rfl ?_
          refine w_t (np := 76) (l2 := [some (eR a0), some (eI (v1)), some (eI (pl)), some (eI (v45)), some (eI (v65)), none, none, none, none, none]) (s2 := [eR a0]) rfl (s_an rfl (pos_g I63 gA0 (by decide))) rfl ?_
          refine w_cw (np := 79) (as := []) (l2 := [some (eR a0), none, none]) (rest := []) rfl rfl rfl (Nat.ble_eq.mp rfl) rfl rfl rfl (I63.kd gA0 (by decide) (n := 69) rfl) rfl ?_
          refine s_351 I63 gA0 e68 e70 e72 e74 (by omega) (by omega) ?_
          intro m82 v85 v87 v89 v91 v93 I83 F84 b86 e88 e90 e92 e94 h95 h96
          have F97 : Fr l_352 0 0 g μ m82 := F77.t F84 rfl
          have b98 : 0 ≤ v87 ∧ v87 ≤ 8 := by
            rw [← e88]
            exact I83.int gA0 (by decide) (n := 69) rfl (by decide) rfl
          have b99 : -2147483648 ≤ v89 ∧ v89 ≤ 2147483647 := by
            rw [← e90]
            exact I83.int gA0 (by decide) (n := 69) rfl (by decide) rfl
          have b100 : 0 ≤ v91 ∧ v91 ≤ 902 := by
            rw [← e92]
            exact I83.int gA0 (by decide) (n := 69) rfl (by decide) rfl
          have b101 : 0 ≤ v93 ∧ v93 ≤ 902 := by
            rw [← e94]
            exact I83.int gA0 (by decide) (n := 69) rfl (by decide) rfl
          clear h75 h76
          show ex_q (dt_fg L ρ) rc (d + 7, (352, 79, [some (eR a0), some (eI (v1)), some (eI (pl)), some (eI (v45)), some (eI (v65)), none, none, none, none, none], [eI (v85)]), f :: F, m82)
          refine w_t (np := 81) (l2 := [some (eR a0), some (eI (v1)), some (eI (pl)), some (eI (v45)), some (eI (v65)), some (eI (v85)), none, none, none, none]) (s2 := []) rfl rfl rfl ?_
          refine w_t (np := 82) (l2 := [some (eR a0), some (eI (v1)), some (eI (pl)), some (eI (v45)), some (eI (v65)), some (eI (v85)), none, none, none, none]) (s2 := [eR a0]) rfl (s_an rfl (pos_g I83 gA0 (by decide))) rfl ?_
          refine w_cw (np := 85) (as := []) (l2 := [some (eR a0), none, none]) (rest := []) rfl rfl rfl (Nat.ble_eq.mp rfl) rfl rfl rfl (I83.kd gA0 (by decide) (n := 69) rfl) rfl ?_
          refine s_351 I83 gA0 e88 e90 e92 e94 (by omega) (by omega) ?_
          intro m102 v105 v107 v109 v111 v113 I103 F104 b106 e108 e110 e112 e114 h115 h116
          have F117 : Fr l_352 0 0 g μ m102 := F97.t F104 rfl
          have b118 : 0 ≤ v107 ∧ v107 ≤ 8 := by
            rw [← e108]
            exact I103.int gA0 (by decide) (n := 69) rfl (by decide) rfl
          have b119 : -2147483648 ≤ v109 ∧ v109 ≤ 2147483647 := by
            rw [← e110]
            exact I103.int gA0 (by decide) (n := 69) rfl (by decide) rfl
          have b120 : 0 ≤ v111 ∧ v111 ≤ 902 := by
            rw [← e112]
            exact I103.int gA0 (by decide) (n := 69) rfl (by decide) rfl
          have b121 : 0 ≤ v113 ∧ v113 ≤ 902 := by
            rw [← e114]
            exact I103.int gA0 (by decide) (n := 69) rfl (by decide) rfl
          clear h95 h96
          show ex_q (dt_fg L ρ) rc (d + 7, (352, 85, [some (eR a0), some (eI (v1)), some (eI (pl)), some (eI (v45)), some (eI (v65)), some (eI (v85)), none, none, none, none], [eI (v105)]), f :: F, m102)
          refine w_t (np := 87) (l2 := [some (eR a0), some (eI (v1)), some (eI (pl)), some (eI (v45)), some (eI (v65)), some (eI (v85)), some (eI (v105)), none, none, none]) (s2 := []) rfl rfl rfl ?_
          refine w_t (np := 88) (l2 := [some (eR a0), some (eI (v1)), some (eI (pl)), some (eI (v45)), some (eI (v65)), some (eI (v85)), some (eI (v105)), none, none, none]) (s2 := [eR a0]) rfl (s_an rfl (pos_g I103 gA0 (by decide))) rfl ?_
          refine w_t (np := 89) (l2 := [some (eR a0), some (eI (v1)), some (eI (pl)), some (eI (v45)), some (eI (v65)), some (eI (v85)), some (eI (v105)), none, none, none]) (s2 := [eR a0, eR a0]) rfl (s_an rfl (pos_g I103 gA0 (by decide))) rfl ?_
          refine w_t (np := 90) (l2 := [some (eR a0), some (eI (v1)), some (eI (pl)), some (eI (v45)), some (eI (v65)), some (eI (v85)), some (eI (v105)), none, none, none]) (s2 := [eI (2), eR a0, eR a0]) rfl rfl rfl ?_
          refine w_cw (np := 93) (as := [eI (2)]) (l2 := [some (eR a0), some (eI (2))]) (rest := [eR a0]) rfl rfl rfl (Nat.ble_eq.mp rfl) rfl rfl rfl (I103.kd gA0 (by decide) (n := 69) rfl) rfl ?_
          refine s_347 (a1 := 2) I103 gA0 (by decide) e108 e110 ?_
          intro v122 b123 h124
          show ex_q (dt_fg L ρ) rc (d + 7, (352, 93, [some (eR a0), some (eI (v1)), some (eI (pl)), some (eI (v45)), some (eI (v65)), some (eI (v85)), some (eI (v105)), none, none, none], [eI (v122), eR a0]), f :: F, m102)
          refine w_cw (np := 96) (as := [eI (v122)]) (l2 := [some (eR a0), some (eI (v122))]) (rest := []) rfl rfl rfl (Nat.ble_eq.mp rfl) rfl rfl rfl (I103.kd gA0 (by decide) (n := 69) rfl) rfl ?_
          refine s_349 (a1 := v122) I103 gA0 (by omega) e108 e110 e112 e114 (by omega) (by omega) (by omega) ?_
          intro m125 v128 v130 v132 v134 I126 F127 e129 e131 e133 e135 h136 h137
          have F138 : Fr l_352 0 0 g μ m125 := F117.t F127 rfl
          have b139 : 0 ≤ v128 ∧ v128 ≤ 8 := by
            rw [← e129]
            exact I126.int gA0 (by decide) (n := 69) rfl (by decide) rfl
          have b140 : -2147483648 ≤ v130 ∧ v130 ≤ 2147483647 := by
            rw [← e131]
            exact I126.int gA0 (by decide) (n := 69) rfl (by decide) rfl
          have b141 : 0 ≤ v132 ∧ v132 ≤ 902 := by
            rw [← e133]
            exact I126.int gA0 (by decide) (n := 69) rfl (by decide) rfl
          have b142 : 0 ≤ v134 ∧ v134 ≤ 902 := by
            rw [← e135]
            exact I126.int gA0 (by decide) (n := 69) rfl (by decide) rfl
          clear h115 h116
          show ex_q (dt_fg L ρ) rc (d + 7, (352, 96, [some (eR a0), some (eI (v1)), some (eI (pl)), some (eI (v45)), some (eI (v65)), some (eI (v85)), some (eI (v105)), none, none, none], []), f :: F, m125)
          refine w_t (np := 97) (l2 := [some (eR a0), some (eI (v1)), some (eI (pl)), some (eI (v45)), some (eI (v65)), some (eI (v85)), some (eI (v105)), none, none, none]) (s2 := [eR a0]) rfl (s_an rfl (pos_g I126 gA0 (by decide))) rfl ?_
          refine w_t (np := 99) (l2 := [some (eR a0), some (eI (v1)), some (eI (pl)), some (eI (v45)), some (eI (v65)), some (eI (v85)), some (eI (v105)), none, none, none]) (s2 := [eI (9), eR a0]) rfl rfl rfl ?_
          refine w_cw (np := 102) (as := [eI (9)]) (l2 := [some (eR a0), some (eI (9)), none]) (rest := []) rfl rfl rfl (Nat.ble_eq.mp rfl) rfl rfl rfl (I126.kd gA0 (by decide) (n := 69) rfl) rfl ?_
          refine s_350 (a1 := 9) I126 gA0 (by decide) e129 e131 e133 e135 (by omega) (by omega) ?_
          intro m143 v146 v148 v150 v152 v154 I144 F145 b147 e149 e151 e153 e155 h156 h157
          have F158 : Fr l_352 0 0 g μ m143 := F138.t F145 rfl
          have b159 : 0 ≤ v148 ∧ v148 ≤ 8 := by
            rw [← e149]
            exact I144.int gA0 (by decide) (n := 69) rfl (by decide) rfl
          have b160 : -2147483648 ≤ v150 ∧ v150 ≤ 2147483647 := by
            rw [← e151]
            exact I144.int gA0 (by decide) (n := 69) rfl (by decide) rfl
          have b161 : 0 ≤ v152 ∧ v152 ≤ 902 := by
            rw [← e153]
            exact I144.int gA0 (by decide) (n := 69) rfl (by decide) rfl
          have b162 : 0 ≤ v154 ∧ v154 ≤ 902 := by
            rw [← e155]
            exact I144.int gA0 (by decide) (n := 69) rfl (by decide) rfl
          clear h136 h137
          show ex_q (dt_fg L ρ) rc (d + 7, (352, 102, [some (eR a0), some (eI (v1)), some (eI (pl)), some (eI (v45)), some (eI (v65)), some (eI (v85)), some (eI (v105)), none, none, none], [eI (v146)]), f :: F, m143)
          refine w_t (np := 104) (l2 := [some (eR a0), some (eI (v1)), some (eI (pl)), some (eI (v45)), some (eI (v65)), some (eI (v85)), some (eI (v105)), some (eI (v146)), none, none]) (s2 := []) rfl rfl rfl ?_
          refine w_t (np := 105) (l2 := [some (eR a0), some (eI (v1)), some (eI (pl)), some (eI (v45)), some (eI (v65)), some (eI (v85)), some (eI (v105)), some (eI (v146)), none, none]) (s2 := [eR a0]) rfl (s_an rfl (pos_g I144 gA0 (by decide))) rfl ?_
          refine w_t (np := 106) (l2 := [some (eR a0), some (eI (v1)), some (eI (pl)), some (eI (v45)), some (eI (v65)), some (eI (v85)), some (eI (v105)), some (eI (v146)), none, none]) (s2 := [eR a0, eR a0]) rfl (s_an rfl (pos_g I144 gA0 (by decide))) rfl ?_
          refine w_t (np := 107) (l2 := [some (eR a0), some (eI (v1)), some (eI (pl)), some (eI (v45)), some (eI (v65)), some (eI (v85)), some (eI (v105)), some (eI (v146)), none, none]) (s2 := [eI (3), eR a0, eR a0]) rfl rfl rfl ?_
          refine w_cw (np := 110) (as := [eI (3)]) (l2 := [some (eR a0), some (eI (3))]) (rest := [eR a0]) rfl rfl rfl (Nat.ble_eq.mp rfl) rfl rfl rfl (I144.kd gA0 (by decide) (n := 69) rfl) rfl ?_
          refine s_347 (a1 := 3) I144 gA0 (by decide) e149 e151 ?_
          intro v163 b164 h165
          show ex_q (dt_fg L ρ) rc (d + 7, (352, 110, [some (eR a0), some (eI (v1)), some (eI (pl)), some (eI (v45)), some (eI (v65)), some (eI (v85)), some (eI (v105)), some (eI (v146)), none, none], [eI (v163), eR a0]), f :: F, m143)
          refine w_cw (np := 113) (as := [eI (v163)]) (l2 := [some (eR a0), some (eI (v163))]) (rest := []) rfl rfl rfl (Nat.ble_eq.mp rfl) rfl rfl rfl (I144.kd gA0 (by decide) (n := 69) rfl) rfl ?_
          refine s_349 (a1 := v163) I144 gA0 (by omega) e149 e151 e153 e155 (by omega) (by omega) (by omega) ?_
          intro m166 v169 v171 v173 v175 I167 F168 e170 e172 e174 e176 h177 h178
          have F179 : Fr l_352 0 0 g μ m166 := F158.t F168 rfl
          have b180 : 0 ≤ v169 ∧ v169 ≤ 8 := by
            rw [← e170]
            exact I167.int gA0 (by decide) (n := 69) rfl (by decide) rfl
          have b181 : -2147483648 ≤ v171 ∧ v171 ≤ 2147483647 := by
            rw [← e172]
            exact I167.int gA0 (by decide) (n := 69) rfl (by decide) rfl
          have b182 : 0 ≤ v173 ∧ v173 ≤ 902 := by
            rw [← e174]
            exact I167.int gA0 (by decide) (n := 69) rfl (by decide) rfl
          have b183 : 0 ≤ v175 ∧ v175 ≤ 902 := by
            rw [← e176]
            exact I167.int gA0 (by decide) (n := 69) rfl (by decide) rfl
          clear h156 h157
          show ex_q (dt_fg L ρ) rc (d + 7, (352, 113, [some (eR a0), some (eI (v1)), some (eI (pl)), some (eI (v45)), some (eI (v65)), some (eI (v85)), some (eI (v105)), some (eI (v146)), none, none], []), f :: F, m166)
          refine w_t (np := 114) (l2 := [some (eR a0), some (eI (v1)), some (eI (pl)), some (eI (v45)), some (eI (v65)), some (eI (v85)), some (eI (v105)), some (eI (v146)), none, none]) (s2 := [eR a0]) rfl (s_an rfl (pos_g I167 gA0 (by decide))) rfl ?_
          refine w_t (np := 115) (l2 := [some (eR a0), some (eI (v1)), some (eI (pl)), some (eI (v45)), some (eI (v65)), some (eI (v85)), some (eI (v105)), some (eI (v146)), none, none]) (s2 := [eI (1), eR a0]) rfl rfl rfl ?_
          refine w_cw (np := 118) (as := [eI (1)]) (l2 := [some (eR a0), some (eI (1)), none]) (rest := []) rfl rfl rfl (Nat.ble_eq.mp rfl) rfl rfl rfl (I167.kd gA0 (by decide) (n := 69) rfl) rfl ?_
          refine s_350 (a1 := 1) I167 gA0 (by decide) e170 e172 e174 e176 (by omega) (by omega) ?_
          intro m184 v187 v189 v191 v193 v195 I185 F186 b188 e190 e192 e194 e196 h197 h198
          have F199 : Fr l_352 0 0 g μ m184 := F179.t F186 rfl
          have b200 : 0 ≤ v189 ∧ v189 ≤ 8 := by
            rw [← e190]
            exact I185.int gA0 (by decide) (n := 69) rfl (by decide) rfl
          have b201 : -2147483648 ≤ v191 ∧ v191 ≤ 2147483647 := by
            rw [← e192]
            exact I185.int gA0 (by decide) (n := 69) rfl (by decide) rfl
          have b202 : 0 ≤ v193 ∧ v193 ≤ 902 := by
            rw [← e194]
            exact I185.int gA0 (by decide) (n := 69) rfl (by decide) rfl
          have b203 : 0 ≤ v195 ∧ v195 ≤ 902 := by
            rw [← e196]
            exact I185.int gA0 (by decide) (n := 69) rfl (by decide) rfl
          clear h177 h178
          show ex_q (dt_fg L ρ) rc (d + 7, (352, 118, [some (eR a0), some (eI (v1)), some (eI (pl)), some (eI (v45)), some (eI (v65)), some (eI (v85)), some (eI (v105)), some (eI (v146)), none, none], [eI (v187)]), f :: F, m184)
          refine w_t (np := 120) (l2 := [some (eR a0), some (eI (v1)), some (eI (pl)), some (eI (v45)), some (eI (v65)), some (eI (v85)), some (eI (v105)), some (eI (v146)), some (eI (v187)), none]) (s2 := []) rfl rfl rfl ?_
          refine w_t (np := 121) (l2 := [some (eR a0), some (eI (v1)), some (eI (pl)), some (eI (v45)), some (eI (v65)), some (eI (v85)), some (eI (v105)), some (eI (v146)), some (eI (v187)), none]) (s2 := [eR a0]) rfl (s_an rfl (pos_g I185 gA0 (by decide))) rfl ?_
          refine w_t (np := 122) (l2 := [some (eR a0), some (eI (v1)), some (eI (pl)), some (eI (v45)), some (eI (v65)), some (eI (v85)), some (eI (v105)), some (eI (v146)), some (eI (v187)), none]) (s2 := [eR a0, eR a0]) rfl (s_an rfl (pos_g I185 gA0 (by decide))) rfl ?_
          refine w_t (np := 124) (l2 := [some (eR a0), some (eI (v1)), some (eI (pl)), some (eI (v45)), some (eI (v65)), some (eI (v85)), some (eI (v105)), some (eI (v146)), some (eI (v187)), none]) (s2 := [eI (59), eR a0, eR a0]) rfl rfl rfl ?_
          refine w_cw (np := 127) (as := [eI (59)]) (l2 := [some (eR a0), some (eI (59))]) (rest := [eR a0]) rfl rfl rfl (Nat.ble_eq.mp rfl) rfl rfl rfl (I185.kd gA0 (by decide) (n := 69) rfl) rfl ?_
          refine s_348 (a1 := 59) I185 gA0 (by decide) e190 e192 e194 (by omega) ?_
          intro v204 b205 h206
          show ex_q (dt_fg L ρ) rc (d + 7, (352, 127, [some (eR a0), some (eI (v1)), some (eI (pl)), some (eI (v45)), some (eI (v65)), some (eI (v85)), some (eI (v105)), some (eI (v146)), some (eI (v187)), none], [eI (v204), eR a0]), f :: F, m184)
          refine w_t (np := 128) (l2 := [some (eR a0), some (eI (v1)), some (eI (pl)), some (eI (v45)), some (eI (v65)), some (eI (v85)), some (eI (v105)), some (eI (v146)), some (eI (v187)), none]) (s2 := [eI (2), eI (v204), eR a0]) rfl rfl rfl ?_
          refine w_cw (np := 131) (as := [eI (v204), eI (2)]) (l2 := [some (eR a0), some (eI (v204)), some (eI (2))]) (rest := []) rfl rfl rfl (Nat.ble_eq.mp rfl) rfl rfl rfl (I185.kd gA0 (by decide) (n := 69) rfl) rfl ?_
          refine s_346 (a1 := v204) (a2 := 2) I185 gA0 (by omega) (by decide) e190 ?_
          intro m207 v210 I208 F209 e211 h212
          have F213 : Fr l_352 0 0 g μ m207 := F199.t F209 rfl
          have b214 : 0 ≤ v210 ∧ v210 ≤ 8 := by
            rw [← e211]
            exact I208.int gA0 (by decide) (n := 69) rfl (by decide) rfl
          show ex_q (dt_fg L ρ) rc (d + 7, (352, 131, [some (eR a0), some (eI (v1)), some (eI (pl)), some (eI (v45)), some (eI (v65)), some (eI (v85)), some (eI (v105)), some (eI (v146)), some (eI (v187)), none], []), f :: F, m207)
          refine w_t (np := 132) (l2 := [some (eR a0), some (eI (v1)), some (eI (pl)), some (eI (v45)), some (eI (v65)), some (eI (v85)), some (eI (v105)), some (eI (v146)), some (eI (v187)), none]) (s2 := [eR a0]) rfl (s_an rfl (pos_g I208 gA0 (by decide))) rfl ?_
          refine w_gf (np := 135) (v := eI (v210)) rfl rfl (I208.kd gA0 (by decide) (n := 69) rfl) (by rw [e211]; rfl) ?_
          refine b_ile (t1 := 139) (t2 := 138) rfl rfl rfl (ev_w_in (by omega) (by omega)) (fun g215 => ?_) (fun g215 => ?_)
          · have b216 : 0 ≤ v210 ∧ v210 ≤ 0 := by omega
            refine w_t (np := 140) (l2 := [some (eR a0), some (eI (v1)), some (eI (pl)), some (eI (v45)), some (eI (v65)), some (eI (v85)), some (eI (v105)), some (eI (v146)), some (eI (v187)), none]) (s2 := [eR a0]) rfl (s_an rfl (pos_g I208 gA0 (by decide))) rfl ?_
            refine w_t (np := 141) (l2 := [some (eR a0), some (eI (v1)), some (eI (pl)), some (eI (v45)), some (eI (v65)), some (eI (v85)), some (eI (v105)), some (eI (v146)), some (eI (v187)), none]) (s2 := [eI (v1), eR a0]) rfl rfl rfl ?_
            refine b_ieq (t1 := 148) (t2 := 144) rfl rfl rfl (ev_w_in (by omega) (by omega)) (fun g216 => ?_) (fun g216 => False.elim (by omega))
            refine w_t (np := 149) (l2 := [some (eR a0), some (eI (v1)), some (eI (pl)), some (eI (v45)), some (eI (v65)), some (eI (v85)), some (eI (v105)), some (eI (v146)), some (eI (v187)), none]) (s2 := [eI (0), eR a0]) rfl rfl rfl ?_
            refine w_t (np := 150) (l2 := [some (eR a0), some (eI (v1)), some (eI (pl)), some (eI (v45)), some (eI (v65)), some (eI (v85)), some (eI (v105)), some (eI (v146)), some (eI (v187)), none]) (s2 := [eI (v45), eI (0), eR a0]) rfl rfl rfl ?_
            refine w_t (np := 152) (l2 := [some (eR a0), some (eI (v1)), some (eI (pl)), some (eI (v45)), some (eI (v65)), some (eI (v85)), some (eI (v105)), some (eI (v146)), some (eI (v187)), none]) (s2 := [eI (v65), eI (v45), eI (0), eR a0]) rfl rfl rfl ?_
            refine w_t (np := 154) (l2 := [some (eR a0), some (eI (v1)), some (eI (pl)), some (eI (v45)), some (eI (v65)), some (eI (v85)), some (eI (v105)), some (eI (v146)), some (eI (v187)), none]) (s2 := [eI (v85), eI (v65), eI (v45), eI (0), eR a0]) rfl rfl rfl ?_
            refine w_t (np := 156) (l2 := [some (eR a0), some (eI (v1)), some (eI (pl)), some (eI (v45)), some (eI (v65)), some (eI (v85)), some (eI (v105)), some (eI (v146)), some (eI (v187)), none]) (s2 := [eI (v105), eI (v85), eI (v65), eI (v45), eI (0), eR a0]) rfl rfl rfl ?_
            refine w_t (np := 158) (l2 := [some (eR a0), some (eI (v1)), some (eI (pl)), some (eI (v45)), some (eI (v65)), some (eI (v85)), some (eI (v105)), some (eI (v146)), some (eI (v187)), none]) (s2 := [eI (v146), eI (v105), eI (v85), eI (v65), eI (v45), eI (0), eR a0]) rfl rfl rfl ?_
            refine w_t (np := 160) (l2 := [some (eR a0), some (eI (v1)), some (eI (pl)), some (eI (v45)), some (eI (v65)), some (eI (v85)), some (eI (v105)), some (eI (v146)), some (eI (v187)), none]) (s2 := [eI (v187), eI (v146), eI (v105), eI (v85), eI (v65), eI (v45), eI (0), eR a0]) rfl rfl rfl ?_
            refine w_cw (np := 163) (as := [eI (0), eI (v45), eI (v65), eI (v85), eI (v105), eI (v146), eI (v187)]) (l2 := [some (eR a0), some (eI (0)), some (eI (v45)), some (eI (v65)), some (eI (v85)), some (eI (v105)), some (eI (v146)), some (eI (v187)), none]) (rest := []) rfl rfl rfl (Nat.ble_eq.mp rfl) rfl rfl rfl (I208.kd gA0 (by decide) (n := 69) rfl) rfl ?_
            refine s_312 (a1 := 0) (a2 := v45) (a3 := v65) (a4 := v85) (a5 := v105) (a6 := v146) (a7 := v187) I208 gA0 (by decide) (by omega) (by omega) (by omega) (by omega) (by omega) (by omega) (F209.k (F186.k (F168.k (F145.k (F127.k (F104.k (F84.k (F64.k (F44.k (F29.k (F20.k (F11.k h_rh gA0 (by decide) rfl) gA0 (by decide) rfl) gA0 (by decide) rfl) gA0 (by decide) rfl) gA0 (by decide) rfl) gA0 (by decide) rfl) gA0 (by decide) rfl) gA0 (by decide) rfl) gA0 (by decide) rfl) gA0 (by decide) rfl) gA0 (by decide) rfl) gA0 (by decide) rfl) (by omega) ?_
            intro m217 v220 I218 F219 e221 h222
            have F223 : Fr l_352 0 0 g μ m217 := F213.t F219 rfl
            have b224 : 0 ≤ v220 ∧ v220 ≤ 24 := by
              rw [← e221]
              exact I218.int gA0 (by decide) (n := 69) rfl (by decide) rfl
            show ex_q (dt_fg L ρ) rc (d + 7, (352, 163, [some (eR a0), some (eI (v1)), some (eI (pl)), some (eI (v45)), some (eI (v65)), some (eI (v85)), some (eI (v105)), some (eI (v146)), some (eI (v187)), none], []), f :: F, m217)
            refine w_t (np := 164) (l2 := [some (eR a0), some (eI (v1)), some (eI (pl)), some (eI (v45)), some (eI (v65)), some (eI (v85)), some (eI (v105)), some (eI (v146)), some (eI (v187)), none]) (s2 := [eR a0]) rfl (s_an rfl (pos_g I218 gA0 (by decide))) rfl ?_
            refine w_cw (np := 167) (as := []) (l2 := [some (eR a0), none, none, none, none]) (rest := []) rfl rfl rfl (Nat.ble_eq.mp rfl) rfl rfl rfl (I218.kd gA0 (by decide) (n := 69) rfl) rfl ?_
            refine s_311 I218 gA0 e221 (by omega) ?_
            intro m225 v228 v230 I226 F227 b229 e231 h232
            have F233 : Fr l_352 0 0 g μ m225 := F223.t F227 rfl
            have b234 : 0 ≤ v230 ∧ v230 ≤ 24 := by
              rw [← e231]
              exact I226.int gA0 (by decide) (n := 69) rfl (by decide) rfl
            show ex_q (dt_fg L ρ) rc (d + 7, (352, 167, [some (eR a0), some (eI (v1)), some (eI (pl)), some (eI (v45)), some (eI (v65)), some (eI (v85)), some (eI (v105)), some (eI (v146)), some (eI (v187)), none], [eI (v228)]), f :: F, m225)
            refine w_t (np := 169) (l2 := [some (eR a0), some (eI (v1)), some (eI (pl)), some (eI (v45)), some (eI (v65)), some (eI (v85)), some (eI (v105)), some (eI (v146)), some (eI (v187)), some (eI (v228))]) (s2 := []) rfl rfl rfl ?_
            refine w_t (np := 171) (l2 := [some (eR a0), some (eI (v1)), some (eI (pl)), some (eI (v45)), some (eI (v65)), some (eI (v85)), some (eI (v105)), some (eI (v146)), some (eI (v187)), some (eI (v228))]) (s2 := [eI (v228)]) rfl rfl rfl ?_
            refine b_ile (t1 := 186) (t2 := 174) rfl rfl rfl (ev_w_in (by omega) (by omega)) (fun g235 => ?_) (fun g235 => ?_)
            · have b236 : 0 ≤ v228 ∧ v228 ≤ 0 := by omega
              refine w_t (np := 187) (l2 := [some (eR a0), some (eI (v1)), some (eI (pl)), some (eI (v45)), some (eI (v65)), some (eI (v85)), some (eI (v105)), some (eI (v146)), some (eI (v187)), some (eI (v228))]) (s2 := [eR a0]) rfl (s_an rfl (pos_g I226 gA0 (by decide))) rfl ?_
              refine w_t (np := 188) (l2 := [some (eR a0), some (eI (v1)), some (eI (pl)), some (eI (v45)), some (eI (v65)), some (eI (v85)), some (eI (v105)), some (eI (v146)), some (eI (v187)), some (eI (v228))]) (s2 := [eR a0, eR a0]) rfl rfl rfl ?_
              refine w_gf (np := 191) (v := eI (v230)) rfl rfl (I226.kd gA0 (by decide) (n := 69) rfl) (by rw [e231]; rfl) ?_
              refine w_t (np := 192) (l2 := [some (eR a0), some (eI (v1)), some (eI (pl)), some (eI (v45)), some (eI (v65)), some (eI (v85)), some (eI (v105)), some (eI (v146)), some (eI (v187)), some (eI (v228))]) (s2 := [eI (1), eI (v230), eR a0]) rfl rfl rfl ?_
              obtain ⟨v236, e237⟩ : ∃ zz : Int, zz = (v230) + (1) := ⟨_, rfl⟩
              have b238 : 1 ≤ v236 ∧ v236 ≤ 25 := by omega
              refine w_t (np := 193) (l2 := [some (eR a0), some (eI (v1)), some (eI (pl)), some (eI (v45)), some (eI (v65)), some (eI (v85)), some (eI (v105)), some (eI (v146)), some (eI (v187)), some (eI (v228))]) (s2 := [eI (v236), eR a0]) rfl (b_iadd (by rw [← e237]; exact ev_w_in (by omega) (by omega))) rfl ?_
              refine j_pf (np := 196) (w := v236) rfl rfl I226 gA0 (by decide) (n := 69) rfl rfl (hO_i (lo := 0) (hi := 24) rfl (by omega)) ?_
              intro m239 I240 W241
              have F242 : Fr l_352 0 0 g μ m239 := F233.w W241 gA0 rfl
              refine w_t (np := 197) (l2 := [some (eR a0), some (eI (v1)), some (eI (pl)), some (eI (v45)), some (eI (v65)), some (eI (v85)), some (eI (v105)), some (eI (v146)), some (eI (v187)), some (eI (v228))]) (s2 := [eR a0]) rfl (s_an rfl (pos_g I240 gA0 (by decide))) rfl ?_
              refine w_cw (np := 200) (as := []) (l2 := [some (eR a0)]) (rest := []) rfl rfl rfl (Nat.ble_eq.mp rfl) rfl rfl rfl (I240.kd gA0 (by decide) (n := 69) rfl) rfl ?_
              refine s_345 I240 gA0 (W241.slot (F227.k (F219.k (F209.k e192 gA0 (by decide) rfl) gA0 (by decide) rfl) gA0 (by decide) rfl) (by decide)) (W241.slot (F227.k (F219.k (F209.k e194 gA0 (by decide) rfl) gA0 (by decide) rfl) gA0 (by decide) rfl) (by decide)) (W241.slot (F227.k (F219.k (F209.k e196 gA0 (by decide) rfl) gA0 (by decide) rfl) gA0 (by decide) rfl) (by decide)) (by omega) ?_
              intro m243 v246 v248 v250 I244 F245 e247 e249 e251 h252 h253
              have F254 : Fr l_352 0 0 g μ m243 := F242.t F245 rfl
              have b255 : -2147483648 ≤ v246 ∧ v246 ≤ 2147483647 := by
                rw [← e247]
                exact I244.int gA0 (by decide) (n := 69) rfl (by decide) rfl
              have b256 : 0 ≤ v248 ∧ v248 ≤ 902 := by
                rw [← e249]
                exact I244.int gA0 (by decide) (n := 69) rfl (by decide) rfl
              have b257 : 0 ≤ v250 ∧ v250 ≤ 902 := by
                rw [← e251]
                exact I244.int gA0 (by decide) (n := 69) rfl (by decide) rfl
              clear h197 h198
              show ex_q (dt_fg L ρ) rc (d + 7, (352, 200, [some (eR a0), some (eI (v1)), some (eI (pl)), some (eI (v45)), some (eI (v65)), some (eI (v85)), some (eI (v105)), some (eI (v146)), some (eI (v187)), some (eI (v228))], []), f :: F, m243)
              exact v_rv rfl rfl (K m243 (v210) (v246) (v248) (v250) (v236) I244 F254 (F245.k (W241.slot (F227.k (F219.k e211 gA0 (by decide) rfl) gA0 (by decide) rfl) (by decide)) gA0 (by decide) rfl) e247 e249 e251 (F245.k W241.at gA0 (by decide) rfl) (by omega) (by omega) (by omega))
            · have b236 : 1 ≤ v228 ∧ v228 ≤ 7 := by omega
              refine w_t (np := 175) (l2 := [some (eR a0), some (eI (v1)), some (eI (pl)), some (eI (v45)), some (eI (v65)), some (eI (v85)), some (eI (v105)), some (eI (v146)), some (eI (v187)), some (eI (v228))]) (s2 := [eR a0]) rfl (s_an rfl (pos_g I226 gA0 (by decide))) rfl ?_
              refine w_t (np := 177) (l2 := [some (eR a0), some (eI (v1)), some (eI (pl)), some (eI (v45)), some (eI (v65)), some (eI (v85)), some (eI (v105)), some (eI (v146)), some (eI (v187)), some (eI (v228))]) (s2 := [eI (v228), eR a0]) rfl rfl rfl ?_
              refine j_pf (np := 180) (w := v228) rfl rfl I226 gA0 (by decide) (n := 69) rfl rfl (hO_i (lo := 0) (hi := 8) rfl (by omega)) ?_
              intro m236 I237 W238
              have F239 : Fr l_352 0 0 g μ m236 := F233.w W238 gA0 rfl
              refine w_t (np := 181) (l2 := [some (eR a0), some (eI (v1)), some (eI (pl)), some (eI (v45)), some (eI (v65)), some (eI (v85)), some (eI (v105)), some (eI (v146)), some (eI (v187)), some (eI (v228))]) (s2 := [eR a0]) rfl (s_an rfl (pos_g I237 gA0 (by decide))) rfl ?_
              refine w_t (np := 182) (l2 := [some (eR a0), some (eI (v1)), some (eI (pl)), some (eI (v45)), some (eI (v65)), some (eI (v85)), some (eI (v105)), some (eI (v146)), some (eI (v187)), some (eI (v228))]) (s2 := [eI (pl), eR a0]) rfl rfl rfl ?_
              refine j_pf (np := 185) (w := pl) rfl rfl I237 gA0 (by decide) (n := 69) rfl rfl (hO_i (lo := -2147483648) (hi := 2147483647) rfl (by omega)) ?_
              intro m240 I241 W242
              have F243 : Fr l_352 0 0 g μ m240 := F239.w W242 gA0 rfl
              exact v_rv rfl rfl (K m240 (v228) (v191) (v193) (v195) (v230) I241 F243 (W242.slot W238.at (by decide)) (W242.slot (W238.slot (F227.k (F219.k (F209.k e192 gA0 (by decide) rfl) gA0 (by decide) rfl) gA0 (by decide) rfl) (by decide)) (by decide)) (W242.slot (W238.slot (F227.k (F219.k (F209.k e194 gA0 (by decide) rfl) gA0 (by decide) rfl) gA0 (by decide) rfl) (by decide)) (by decide)) (W242.slot (W238.slot (F227.k (F219.k (F209.k e196 gA0 (by decide) rfl) gA0 (by decide) rfl) gA0 (by decide) rfl) (by decide)) (by decide)) (W242.slot (W238.slot e231 (by decide)) (by decide)) (by omega) (by omega) (by omega))
          · have b216 : 1 ≤ v210 ∧ v210 ≤ 8 := by omega
            exact v_rv rfl rfl (K m207 (v210) (v191) (v193) (v195) (rh) I208 F213 e211 (F209.k e192 gA0 (by decide) rfl) (F209.k e194 gA0 (by decide) rfl) (F209.k e196 gA0 (by decide) rfl) (F209.k (F186.k (F168.k (F145.k (F127.k (F104.k (F84.k (F64.k (F44.k (F29.k (F20.k (F11.k h_rh gA0 (by decide) rfl) gA0 (by decide) rfl) gA0 (by decide) rfl) gA0 (by decide) rfl) gA0 (by decide) rfl) gA0 (by decide) rfl) gA0 (by decide) rfl) gA0 (by decide) rfl) gA0 (by decide) rfl) gA0 (by decide) rfl) gA0 (by decide) rfl) gA0 (by decide) rfl) (by omega) (by omega) (by omega))
        · have b27 : 1 ≤ v21 ∧ v21 ≤ 8 := by omega
          exact v_rv rfl rfl (K m18 (v21) (so) (pl) (th) (rh) I19 F24 e22 (F20.k (F11.k h_so gA0 (by decide) rfl) gA0 (by decide) rfl) (F20.k (F11.k h_pl gA0 (by decide) rfl) gA0 (by decide) rfl) (F20.k (F11.k h_th gA0 (by decide) rfl) gA0 (by decide) rfl) (F20.k (F11.k h_rh gA0 (by decide) rfl) gA0 (by decide) rfl) (by omega) (by omega) (by omega))
