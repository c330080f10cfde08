/-! depthOf, comes: their ends -/
def l_365z : List Nat := [13056]
theorem s_365z {L : Nat} {ρ : Nat → Int} {rc : eQ} {d : Nat} {f : eFr} {F : List eFr} {μ : eM} {g : Nat → Nat} {a0 : Nat} (hI : SI g μ) (gA0 : g a0 = 51) (K : ∀ (μ2 : eM), SI g μ2 → Fr l_365z 0 0 g μ μ2 → (∀ j : Nat, j < 4 → μ2.1 a0 j = -1) → ex_q (dt_fg L ρ) rc (d + 1, (f.1, f.2.1, f.2.2.1, f.2.2.2), F, μ2)) : ex_q (dt_fg L ρ) rc (d, (365, 0, [some (eR a0), some (eI (-1)), none, none], []), f :: F, μ) := by
  have F0 : Fr l_365z 0 0 g μ μ := Fr.r
  refine w_t (np := 1) (l2 := [some (eR a0), some (eI (-1)), none, none]) (s2 := [eI (0)]) rfl rfl rfl ?_
  refine w_t (np := 2) (l2 := [some (eR a0), some (eI (-1)), some (eI (0)), none]) (s2 := []) rfl rfl rfl ?_
  refine w_t (np := 3) (l2 := [some (eR a0), some (eI (-1)), some (eI (0)), none]) (s2 := [eR a0]) rfl (s_an rfl (pos_g hI gA0 (by decide))) rfl ?_
  refine j_len (np := 4) rfl rfl hI gA0 (by decide) (c := 100) (n := 4) rfl rfl rfl ?_
  rw [show ((4 : Nat) : Int) = 4 from rfl]
  refine w_t (np := 5) (l2 := [some (eR a0), some (eI (-1)), some (eI (0)), some (eI (4))]) (s2 := []) rfl rfl rfl ?_
  refine w_t (np := 6) (l2 := [some (eR a0), some (eI (-1)), some (eI (0)), some (eI (4))]) (s2 := [eI (0)]) rfl rfl rfl ?_
  refine w_t (np := 7) (l2 := [some (eR a0), some (eI (-1)), some (eI (0)), some (eI (4))]) (s2 := [eI (4), eI (0)]) rfl rfl rfl ?_
  refine b_cge (t1 := 20) (t2 := 10) rfl rfl rfl rfl rfl (fun g1 => absurd g1 (by decide)) (fun g1 => ?_)
  refine w_t (np := 11) (l2 := [some (eR a0), some (eI (-1)), some (eI (0)), some (eI (4))]) (s2 := [eR a0]) rfl (s_an rfl (pos_g hI gA0 (by decide))) rfl ?_
  refine w_t (np := 12) (l2 := [some (eR a0), some (eI (-1)), some (eI (0)), some (eI (4))]) (s2 := [eI (0), eR a0]) rfl rfl rfl ?_
  refine w_t (np := 13) (l2 := [some (eR a0), some (eI (-1)), some (eI (0)), some (eI (4))]) (s2 := [eI (-1), eI (0), eR a0]) rfl rfl rfl ?_
  refine j_as (np := 14) rfl rfl hI gA0 (by decide) (n := 4) rfl rfl (lo := -1) (hi := 64) (fun _ => rfl) (by decide) (by decide) (by decide) ?_
  intro m2 I3 W4
  have F5 : Fr l_365z 0 0 g μ m2 := F0.v W4 gA0 rfl rfl
  refine w_t (np := 17) (l2 := [some (eR a0), some (eI (-1)), some (eI (1)), some (eI (4))]) (s2 := []) rfl (b_iinc rfl rfl rfl) rfl ?_
  refine w_go (t1 := 5) rfl rfl ?_
  refine w_t (np := 6) (l2 := [some (eR a0), some (eI (-1)), some (eI (1)), some (eI (4))]) (s2 := [eI (1)]) rfl rfl rfl ?_
  refine w_t (np := 7) (l2 := [some (eR a0), some (eI (-1)), some (eI (1)), some (eI (4))]) (s2 := [eI (4), eI (1)]) rfl rfl rfl ?_
  refine b_cge (t1 := 20) (t2 := 10) rfl rfl rfl rfl rfl (fun g6 => absurd g6 (by decide)) (fun g6 => ?_)
  refine w_t (np := 11) (l2 := [some (eR a0), some (eI (-1)), some (eI (1)), some (eI (4))]) (s2 := [eR a0]) rfl (s_an rfl (pos_g I3 gA0 (by decide))) rfl ?_
  refine w_t (np := 12) (l2 := [some (eR a0), some (eI (-1)), some (eI (1)), some (eI (4))]) (s2 := [eI (1), eR a0]) rfl rfl rfl ?_
  refine w_t (np := 13) (l2 := [some (eR a0), some (eI (-1)), some (eI (1)), some (eI (4))]) (s2 := [eI (-1), eI (1), eR a0]) rfl rfl rfl ?_
  refine j_as (np := 14) rfl rfl I3 gA0 (by decide) (n := 4) rfl rfl (lo := -1) (hi := 64) (fun _ => rfl) (by decide) (by decide) (by decide) ?_
  intro m7 I8 W9
  have F10 : Fr l_365z 0 0 g μ m7 := F5.v W9 gA0 rfl rfl
  refine w_t (np := 17) (l2 := [some (eR a0), some (eI (-1)), some (eI (2)), some (eI (4))]) (s2 := []) rfl (b_iinc rfl rfl rfl) rfl ?_
  refine w_go (t1 := 5) rfl rfl ?_
  refine w_t (np := 6) (l2 := [some (eR a0), some (eI (-1)), some (eI (2)), some (eI (4))]) (s2 := [eI (2)]) rfl rfl rfl ?_
  refine w_t (np := 7) (l2 := [some (eR a0), some (eI (-1)), some (eI (2)), some (eI (4))]) (s2 := [eI (4), eI (2)]) rfl rfl rfl ?_
  refine b_cge (t1 := 20) (t2 := 10) rfl rfl rfl rfl rfl (fun g11 => absurd g11 (by decide)) (fun g11 => ?_)
  refine w_t (np := 11) (l2 := [some (eR a0), some (eI (-1)), some (eI (2)), some (eI (4))]) (s2 := [eR a0]) rfl (s_an rfl (pos_g I8 gA0 (by decide))) rfl ?_
  refine w_t (np := 12) (l2 := [some (eR a0), some (eI (-1)), some (eI (2)), some (eI (4))]) (s2 := [eI (2), eR a0]) rfl rfl rfl ?_
  refine w_t (np := 13) (l2 := [some (eR a0), some (eI (-1)), some (eI (2)), some (eI (4))]) (s2 := [eI (-1), eI (2), eR a0]) rfl rfl rfl ?_
  refine j_as (np := 14) rfl rfl I8 gA0 (by decide) (n := 4) rfl rfl (lo := -1) (hi := 64) (fun _ => rfl) (by decide) (by decide) (by decide) ?_
  intro m12 I13 W14
  have F15 : Fr l_365z 0 0 g μ m12 := F10.v W14 gA0 rfl rfl
  refine w_t (np := 17) (l2 := [some (eR a0), some (eI (-1)), some (eI (3)), some (eI (4))]) (s2 := []) rfl (b_iinc rfl rfl rfl) rfl ?_
  refine w_go (t1 := 5) rfl rfl ?_
  refine w_t (np := 6) (l2 := [some (eR a0), some (eI (-1)), some (eI (3)), some (eI (4))]) (s2 := [eI (3)]) rfl rfl rfl ?_
  refine w_t (np := 7) (l2 := [some (eR a0), some (eI (-1)), some (eI (3)), some (eI (4))]) (s2 := [eI (4), eI (3)]) rfl rfl rfl ?_
  refine b_cge (t1 := 20) (t2 := 10) rfl rfl rfl rfl rfl (fun g16 => absurd g16 (by decide)) (fun g16 => ?_)
  refine w_t (np := 11) (l2 := [some (eR a0), some (eI (-1)), some (eI (3)), some (eI (4))]) (s2 := [eR a0]) rfl (s_an rfl (pos_g I13 gA0 (by decide))) rfl ?_
  refine w_t (np := 12) (l2 := [some (eR a0), some (eI (-1)), some (eI (3)), some (eI (4))]) (s2 := [eI (3), eR a0]) rfl rfl rfl ?_
  refine w_t (np := 13) (l2 := [some (eR a0), some (eI (-1)), some (eI (3)), some (eI (4))]) (s2 := [eI (-1), eI (3), eR a0]) rfl rfl rfl ?_
  refine j_as (np := 14) rfl rfl I13 gA0 (by decide) (n := 4) rfl rfl (lo := -1) (hi := 64) (fun _ => rfl) (by decide) (by decide) (by decide) ?_
  intro m17 I18 W19
  have F20 : Fr l_365z 0 0 g μ m17 := F15.v W19 gA0 rfl rfl
  refine w_t (np := 17) (l2 := [some (eR a0), some (eI (-1)), some (eI (4)), some (eI (4))]) (s2 := []) rfl (b_iinc rfl rfl rfl) rfl ?_
  refine w_go (t1 := 5) rfl rfl ?_
  refine w_t (np := 6) (l2 := [some (eR a0), some (eI (-1)), some (eI (4)), some (eI (4))]) (s2 := [eI (4)]) rfl rfl rfl ?_
  refine w_t (np := 7) (l2 := [some (eR a0), some (eI (-1)), some (eI (4)), some (eI (4))]) (s2 := [eI (4), eI (4)]) rfl rfl rfl ?_
  refine b_cge (t1 := 20) (t2 := 10) rfl rfl rfl rfl rfl (fun g21 => ?_) (fun g21 => absurd g21 (by decide))
  exact v_rv rfl rfl (K m17 I18 F20 (fun j hj => match j, hj with | 0, _ => (W19.slot (W14.slot (W9.slot W4.at (by decide)) (by decide)) (by decide)) | 1, _ => (W19.slot (W14.slot W9.at (by decide)) (by decide)) | 2, _ => (W19.slot W14.at (by decide)) | 3, _ => W19.at | j + 4, h => absurd h (by omega)))
def l_184p : List Nat := [13056, 267]
theorem s_184p {L : Nat} {ρ : Nat → Int} {rc : eQ} {d : Nat} {f : eFr} {F : List eFr} {μ : eM} {g : Nat → Nat} {a0 : Nat} {a1 : Int} {a2 : Int} (hI : SI g μ) (gA0 : g a0 = 1) (bA1 : 0 ≤ a1 ∧ a1 ≤ 3) (bA2 : -2147483648 ≤ a2 ∧ a2 ≤ 2147483647) (K : ∀ (g2 : Nat → Nat) (μ2 : eM) (fi : Nat) (c s : Nat), GE g g2 → SI g2 μ2 → Fr l_184p c s g μ μ2 → g2 fi = 48 → μ2.1 a0 10 = (fi : Int) → (g2 = g ∧ μ2 = μ ∧ c = 0 ∧ s = 0 ∨ μ.1 a0 10 = 0 ∧ c ≤ 4 ∧ s ≤ 520 ∧ μ2.1 fi 3 = 0 ∧ ∃ r : Nat, μ2.1 fi 2 = (r : Int) ∧ ∀ j : Nat, j < 4 → μ2.1 r j = -1) → ex_q (dt_fg L ρ) rc (d + 2, (184, 37, [some (eR a0), some (eI (a1)), some (eI (a2))], []), f :: F, μ2)) : ex_q (dt_fg L ρ) rc (d + 2, (184, 19, [some (eR a0), some (eI (a1)), some (eI (a2))], []), f :: F, μ) := by
  have F0 : Fr l_184p 0 0 g μ μ := Fr.r
  refine w_t (np := 20) (l2 := [some (eR a0), some (eI (a1)), some (eI (a2))]) (s2 := [eR a0]) rfl (s_an rfl (pos_g hI gA0 (by decide))) rfl ?_
  refine j_gr (np := 23) rfl rfl hI gA0 (by decide) (n := 14) rfl rfl rfl ?_
  intro v1 e2 b3 z4
  rcases hor2 b3 with b3 | b3
  · have z4 : v1 = 0 := z4 b3
    subst z4
    refine v_nn_f (t1 := 37) rfl rfl rfl ?_
    show ex_q (dt_fg L ρ) rc (d + 2, (184, 26, [some (eR a0), some (eI (a1)), some (eI (a2))], []), f :: F, μ)
    refine w_t (np := 27) (l2 := [some (eR a0), some (eI (a1)), some (eI (a2))]) (s2 := [eR a0]) rfl (s_an rfl (pos_g hI gA0 (by decide))) rfl ?_
    refine j_no (np := 30) (n := 4) rfl rfl rfl hI ?_
    intro r5 m6 I7 F8 U9 O10
    have F11 : Fr l_184p 1 4 g μ m6 := F0.t F8 rfl
    have U9 : UC g m6 r5 1 4 [0, 0, 0, 0] := U9
    refine w_t (np := 31) (l2 := [some (eR a0), some (eI (a1)), some (eI (a2))]) (s2 := [eR r5, eR r5, eR a0]) rfl rfl rfl ?_
    refine v_ci (np := 34) (as := []) (lv' := [some (eR r5)]) (rest := [eR r5, eR a0]) rfl rfl rfl (Nat.ble_eq.mp rfl) rfl rfl rfl U9.2.1 rfl ?_
    refine w_t (np := 1) (l2 := [some (eR r5)]) (s2 := [eR r5]) rfl (s_an rfl (by have := U9.2.1; omega)) rfl ?_
    refine v_oi (np := 4) rfl rfl (by have := U9.2.1; omega) rfl ?_
    refine w_t (np := 5) (l2 := [some (eR r5)]) (s2 := [eR r5]) rfl (s_an rfl (by have := U9.2.1; omega)) rfl ?_
    refine w_t (np := 8) (l2 := [some (eR r5)]) (s2 := [eI (256), eR r5]) rfl rfl rfl ?_
    refine j_na (np := 10) (ρ := 49) (lo := -2147483648) (hi := 2147483647) rfl rfl I7 rfl (by decide) (by decide) (fun _ => rfl) (by decide) rfl ?_
    intro r12 g13 m14 I15 E16 b17 F18 U19 K20
    have F21 : Fr l_184p 2 260 g μ m14 := F11.t F18 rfl
    have U22 : UC g13 m14 r5 1 4 [0, 0, 0, 0] := U19 _ _ _ _ U9
    refine j_pu (np := 13) (w := ((r12 : Nat) : Int)) rfl rfl I15 U22 (Nat.ble_eq.mp rfl) rfl ?_
    intro m23 I24 F25 W26 U27
    have F28 : Fr l_184p 2 260 g μ m23 := F21.t3 E16 F25 rfl
    have U27 : UC g13 m23 r5 1 4 [((r12 : Nat) : Int), 0, 0, 0] := U27
    refine w_t (np := 14) (l2 := [some (eR r5)]) (s2 := [eR r5]) rfl (s_an rfl (by have := U27.2.1; omega)) rfl ?_
    refine w_t (np := 17) (l2 := [some (eR r5)]) (s2 := [eI (256), eR r5]) rfl rfl rfl ?_
    refine j_na (np := 19) (ρ := 50) (lo := -2147483648) (hi := 2147483647) rfl rfl I24 rfl (by decide) (by decide) (fun _ => rfl) (by decide) rfl ?_
    intro r29 g30 m31 I32 E33 b34 F35 U36 K37
    have F38 : Fr l_184p 3 516 g μ m31 := F28.t3 E16 F35 rfl
    have E39 := E16.t E33
    have U40 : UC g30 m31 r5 1 4 [((r12 : Nat) : Int), 0, 0, 0] := U36 _ _ _ _ U27
    refine j_pu (np := 22) (w := ((r29 : Nat) : Int)) rfl rfl I32 U40 (Nat.ble_eq.mp rfl) rfl ?_
    intro m41 I42 F43 W44 U45
    have F46 : Fr l_184p 3 516 g μ m41 := F38.t3 E39 F43 rfl
    have U45 : UC g30 m41 r5 1 4 [((r12 : Nat) : Int), ((r29 : Nat) : Int), 0, 0] := U45
    refine w_t (np := 23) (l2 := [some (eR r5)]) (s2 := [eR r5]) rfl (s_an rfl (by have := U45.2.1; omega)) rfl ?_
    refine w_t (np := 24) (l2 := [some (eR r5)]) (s2 := [eI (4), eR r5]) rfl rfl rfl ?_
    refine j_na (np := 26) (ρ := 51) (lo := -1) (hi := 64) rfl rfl I42 rfl (by decide) (by decide) (fun _ => rfl) (by decide) rfl ?_
    intro r47 g48 m49 I50 E51 b52 F53 U54 K55
    have F56 : Fr l_184p 4 520 g μ m49 := F46.t3 E39 F53 rfl
    have E57 := E39.t E51
    have U58 : UC g48 m49 r5 1 4 [((r12 : Nat) : Int), ((r29 : Nat) : Int), 0, 0] := U54 _ _ _ _ U45
    refine j_pu (np := 29) (w := ((r47 : Nat) : Int)) rfl rfl I50 U58 (Nat.ble_eq.mp rfl) rfl ?_
    intro m59 I60 F61 W62 U63
    have F64 : Fr l_184p 4 520 g μ m59 := F56.t3 E57 F61 rfl
    have U63 : UC g48 m59 r5 1 4 [((r12 : Nat) : Int), ((r29 : Nat) : Int), ((r47 : Nat) : Int), 0] := U63
    obtain ⟨g65, I66, E67, b68⟩ := U63.pb (ρ := 48) I60 (by decide) (by decide) rfl (fun k hk => match k, hk with
      | 0, _ => hO_r (b := r12) rfl (by rw [(E51.g (E33.g b17 (by decide)) (by decide))]; rfl) (fun q => absurd q (by rw [(E51.g (E33.g b17 (by decide)) (by decide))]; decide))
      | 1, _ => hO_r (b := r29) rfl (by rw [(E51.g b34 (by decide))]; rfl) (fun q => absurd q (by rw [(E51.g b34 (by decide))]; decide))
      | 2, _ => hO_r (b := r47) rfl (by rw [b52]; rfl) (fun q => absurd q (by rw [b52]; decide))
      | 3, _ => ⟨0, rfl, by rw [I60.1]; rfl, fun _ => rfl⟩
      | k + 4, hk => absurd hk (by omega))
    have E70 := E57.t E67
    refine w_t (np := 30) (l2 := [some (eR r5)]) (s2 := [eR r5]) rfl (s_an rfl (pos_g I66 b68 (by decide))) rfl ?_
    refine w_gf (np := 33) (v := eR r47) rfl rfl (I66.kd b68 (by decide) (n := 4) rfl) (by rw [(show m59.1 r5 2 = ((r47 : Nat) : Int) from (U63.2.2.2 2 (by decide)).trans rfl)]; rfl) ?_
    refine w_t (np := 34) (l2 := [some (eR r5)]) (s2 := [eI (-1), eR r47]) rfl rfl rfl ?_
    refine w_cu (np := 37) (as := [eR r47, eI (-1)]) (l2 := [some (eR r47), some (eI (-1)), none, none]) (rest := []) rfl rfl rfl (Nat.ble_eq.mp rfl) rfl rfl rfl rfl ?_
    refine s_365z I66 (E67.g b52 (by decide)) ?_
    intro m71 I72 F73 h74
    have F75 : Fr l_184p 4 520 g μ m71 := F64.t3 E70 F73 rfl
    show ex_q (dt_fg L ρ) rc (d + 1, (11, 37, [some (eR r5)], []), (184, 34, [some (eR a0), some (eI (a1)), some (eI (a2))], [eR r5, eR a0]) :: f :: F, m71)
    refine v_rv rfl rfl ?_
    show ex_q (dt_fg L ρ) rc (d + 2, (184, 34, [some (eR a0), some (eI (a1)), some (eI (a2))], [eR r5, eR a0]), f :: F, m71)
    refine j_pf (np := 37) (w := ((r5 : Nat) : Int)) rfl rfl I72 (E67.g (E51.g (E33.g (E16.g gA0 (by decide)) (by decide)) (by decide)) (by decide)) (by decide) (n := 14) rfl rfl (hO_r rfl (by rw [b68]; rfl) (fun q => absurd q (by rw [b68]; decide))) ?_
    intro m76 I77 W78
    have F79 : Fr l_184p 4 520 g μ m76 := F75.w3 E70 W78 (E67.g (E51.g (E33.g (E16.g gA0 (by decide)) (by decide)) (by decide)) (by decide)) rfl
    exact K g65 m76 r5 _ _ E70 I77 F79 b68 W78.at (Or.inr ⟨e2, by decide, by decide, (W78.addr (F73.k (show m59.1 r5 3 = ((0 : Nat) : Int) from (U63.2.2.2 3 (by decide)).trans rfl) b68 (by decide) rfl) (E67.g (E51.g (E33.g (E16.g gA0 (by decide)) (by decide)) (by decide)) (by decide)) b68 (by decide)), r47, (W78.addr (F73.k (show m59.1 r5 2 = ((r47 : Nat) : Int) from (U63.2.2.2 2 (by decide)).trans rfl) b68 (by decide) rfl) (E67.g (E51.g (E33.g (E16.g gA0 (by decide)) (by decide)) (by decide)) (by decide)) b68 (by decide)), fun j hj => W78.addr (h74 j hj) (E70.g gA0 (by decide)) (E67.g b52 (by decide)) (by decide)⟩)
  · refine v_nn_t (t1 := 37) rfl rfl (beq_g hI b3 (by decide)) ?_
    exact K g μ v1 _ _ hI.re hI F0 b3 e2 (Or.inl ⟨rfl, rfl, rfl, rfl⟩)
theorem s_12t {L : Nat} {ρ : Nat → Int} {rc : eQ} {d : Nat} {f : eFr} {F : List eFr} {μ : eM} {g : Nat → Nat} {a0 : Nat} {a1 : Int} {a2 : Int} (hI : SI g μ) (gA0 : g a0 = 48) (bA1 : 0 ≤ a1 ∧ a1 ≤ 3) (bA2 : -2147483648 ≤ a2 ∧ a2 ≤ 2147483647) (K : ∀ (v : Int), (-2147483648 ≤ v ∧ v ≤ 2147483647) → ex_q (dt_fg L ρ) rc (d + 2, (f.1, f.2.1, f.2.2.1, eI v :: f.2.2.2), F, μ)) : ex_q (dt_fg L ρ) rc (d + 1, (12, 25, [some (eR a0), some (eI (a1)), some (eI (a2)), none], []), f :: F, μ) := by
  refine w_t (np := 26) (l2 := [some (eR a0), some (eI (a1)), some (eI (a2)), none]) (s2 := [eR a0]) rfl (s_an rfl (pos_g hI gA0 (by decide))) rfl ?_
  refine w_t (np := 27) (l2 := [some (eR a0), some (eI (a1)), some (eI (a2)), none]) (s2 := [eI (a1), eR a0]) rfl rfl rfl ?_
  refine w_t (np := 28) (l2 := [some (eR a0), some (eI (a1)), some (eI (a2)), none]) (s2 := [eI (a2), eI (a1), eR a0]) rfl rfl rfl ?_
  refine w_cw (np := 31) (as := [eI (a1), eI (a2)]) (l2 := [some (eR a0), some (eI (a1)), some (eI (a2)), none, none]) (rest := []) rfl rfl rfl (Nat.ble_eq.mp rfl) rfl rfl rfl (hI.kd gA0 (by decide) (n := 4) rfl) rfl ?_
  refine s_13 (a1 := a1) (a2 := a2) hI gA0 (by omega) (by omega) ?_
  intro v1 b2
  show ex_q (dt_fg L ρ) rc (d + 1, (12, 31, [some (eR a0), some (eI (a1)), some (eI (a2)), none], [eI (v1)]), f :: F, μ)
  refine w_t (np := 32) (l2 := [some (eR a0), some (eI (a1)), some (eI (a2)), some (eI (v1))]) (s2 := []) rfl rfl rfl ?_
  refine w_t (np := 33) (l2 := [some (eR a0), some (eI (a1)), some (eI (a2)), some (eI (v1))]) (s2 := [eI (v1)]) rfl rfl rfl ?_
  refine b_ige (t1 := 40) (t2 := 36) rfl rfl rfl (ev_w_in (by omega) (by omega)) (fun g3 => ?_) (fun g3 => ?_)
  · have b4 : 0 ≤ v1 ∧ v1 ≤ 255 := by omega
    refine w_t (np := 41) (l2 := [some (eR a0), some (eI (a1)), some (eI (a2)), some (eI (v1))]) (s2 := [eR a0]) rfl (s_an rfl (pos_g hI gA0 (by decide))) rfl ?_
    refine j_gr (np := 44) rfl rfl hI gA0 (by decide) (n := 4) rfl rfl rfl ?_
    intro v4 e5 b6 z7
    have b6 : g v4 = 50 := Nat.eq_of_beq_eq_true b6
    refine w_t (np := 45) (l2 := [some (eR a0), some (eI (a1)), some (eI (a2)), some (eI (v1))]) (s2 := [eI (v1), eR v4]) rfl rfl rfl ?_
    refine j_al (np := 46) rfl rfl hI b6 (by decide) (n := 256) rfl rfl (lo := -2147483648) (hi := 2147483647) (fun _ => rfl) (by omega) (by omega) ?_
    intro v8 e9 b10
    exact b_ri rfl rfl (K (v8) (by omega))
  · have b4 : -1 ≤ v1 ∧ v1 ≤ -1 := by omega
    refine w_t (np := 37) (l2 := [some (eR a0), some (eI (a1)), some (eI (a2)), some (eI (v1))]) (s2 := [eI (-1)]) rfl rfl rfl ?_
    refine w_go (t1 := 46) rfl rfl ?_
    exact b_ri rfl rfl (K (-1) (by decide))
def l_207 : List Nat := [270]
theorem s_207 {L : Nat} {ρ : Nat → Int} {rc : eQ} {d : Nat} {f : eFr} {F : List eFr} {μ : eM} {g : Nat → Nat} {a0 : Nat} {a1 : Int} (hI : SI g μ) (gA0 : g a0 = 1) (bA1 : -2147483648 ≤ a1 ∧ a1 ≤ 2147483647) (K : ∀ (μ2 : eM) (v : Int), SI g μ2 → Fr l_207 0 0 g μ μ2 → (-2147483648 ≤ v ∧ v ≤ 2147483647) → ex_q (dt_fg L ρ) rc (d + 2, (f.1, f.2.1, f.2.2.1, eI v :: f.2.2.2), F, μ2)) : ex_q (dt_fg L ρ) rc (d + 1, (207, 0, [some (eR a0), some (eI (a1))], []), f :: F, μ) := by
  have F0 : Fr l_207 0 0 g μ μ := Fr.r
  refine w_t (np := 1) (l2 := [some (eR a0), some (eI (a1))]) (s2 := [eI (a1)]) rfl rfl rfl ?_
  refine b_ige (t1 := 12) (t2 := 4) rfl rfl rfl (ev_w_in (by omega) (by omega)) (fun g1 => ?_) (fun g1 => ?_)
  · have b2 : 0 ≤ a1 ∧ a1 ≤ 2147483647 := by omega
    refine w_t (np := 13) (l2 := [some (eR a0), some (eI (a1))]) (s2 := [eR a0]) rfl (s_an rfl (pos_g hI gA0 (by decide))) rfl ?_
    refine w_t (np := 14) (l2 := [some (eR a0), some (eI (a1))]) (s2 := [eI (a1), eR a0]) rfl rfl rfl ?_
    refine w_cw (np := 17) (as := [eI (a1)]) (l2 := [some (eR a0), some (eI (a1))]) (rest := []) rfl rfl rfl (Nat.ble_eq.mp rfl) rfl rfl rfl (hI.kd gA0 (by decide) (n := 14) rfl) rfl ?_
    refine w_t (np := 1) (l2 := [some (eR a0), some (eI (a1))]) (s2 := [eR a0]) rfl (s_an rfl (pos_g hI gA0 (by decide))) rfl ?_
    refine w_t (np := 2) (l2 := [some (eR a0), some (eI (a1))]) (s2 := [eI (0), eR a0]) rfl rfl rfl ?_
    refine j_pf (np := 5) (w := 0) rfl rfl hI gA0 (by decide) (n := 14) rfl rfl (hO_i (lo := -2147483648) (hi := 2147483647) rfl (by decide)) ?_
    intro m2 I3 W4
    have F5 : Fr l_207 0 0 g μ m2 := F0.w W4 gA0 rfl
    refine w_t (np := 6) (l2 := [some (eR a0), some (eI (a1))]) (s2 := [eI (a1)]) rfl rfl rfl ?_
    refine b_ri rfl rfl ?_
    show ex_q (dt_fg L ρ) rc (d + 1, (207, 17, [some (eR a0), some (eI (a1))], [eI (a1)]), f :: F, m2)
    exact b_ri rfl rfl (K m2 (a1) I3 F5 (by omega))
  · have b2 : -2147483648 ≤ a1 ∧ a1 ≤ -1 := by omega
    refine w_t (np := 5) (l2 := [some (eR a0), some (eI (a1))]) (s2 := [eR a0]) rfl (s_an rfl (pos_g hI gA0 (by decide))) rfl ?_
    refine w_t (np := 6) (l2 := [some (eR a0), some (eI (a1))]) (s2 := [eI (5), eR a0]) rfl rfl rfl ?_
    refine w_cw (np := 9) (as := [eI (5)]) (l2 := [some (eR a0), some (eI (5))]) (rest := []) rfl rfl rfl (Nat.ble_eq.mp rfl) rfl rfl rfl (hI.kd gA0 (by decide) (n := 14) rfl) rfl ?_
    refine w_t (np := 1) (l2 := [some (eR a0), some (eI (5))]) (s2 := [eR a0]) rfl (s_an rfl (pos_g hI gA0 (by decide))) rfl ?_
    refine w_t (np := 2) (l2 := [some (eR a0), some (eI (5))]) (s2 := [eI (5), eR a0]) rfl rfl rfl ?_
    refine j_pf (np := 5) (w := 5) rfl rfl hI gA0 (by decide) (n := 14) rfl rfl (hO_i (lo := -2147483648) (hi := 2147483647) rfl (by decide)) ?_
    intro m2 I3 W4
    have F5 : Fr l_207 0 0 g μ m2 := F0.w W4 gA0 rfl
    refine w_t (np := 6) (l2 := [some (eR a0), some (eI (5))]) (s2 := [eI (-1)]) rfl rfl rfl ?_
    refine b_ri rfl rfl ?_
    show ex_q (dt_fg L ρ) rc (d + 1, (207, 9, [some (eR a0), some (eI (a1))], [eI (-1)]), f :: F, m2)
    refine w_go (t1 := 17) rfl rfl ?_
    exact b_ri rfl rfl (K m2 (-1) I3 F5 (by decide))
def l_205 : List Nat := [270]
theorem s_205 {L : Nat} {ρ : Nat → Int} {rc : eQ} {d : Nat} {f : eFr} {F : List eFr} {μ : eM} {g : Nat → Nat} {a0 : Nat} {a1 : Int} (hI : SI g μ) (gA0 : g a0 = 1) (bA1 : -2147483648 ≤ a1 ∧ a1 ≤ 2147483647) (K : ∀ (μ2 : eM) (v : Int), SI g μ2 → Fr l_205 0 0 g μ μ2 → (-2147483648 ≤ v ∧ v ≤ 2147483647) → ex_q (dt_fg L ρ) rc (d + 1, (f.1, f.2.1, f.2.2.1, eI v :: f.2.2.2), F, μ2)) : ex_q (dt_fg L ρ) rc (d, (205, 0, [some (eR a0), some (eI (a1))], []), f :: F, μ) := by
  have F0 : Fr l_205 0 0 g μ μ := Fr.r
  refine w_t (np := 1) (l2 := [some (eR a0), some (eI (a1))]) (s2 := [eR a0]) rfl (s_an rfl (pos_g hI gA0 (by decide))) rfl ?_
  refine w_t (np := 2) (l2 := [some (eR a0), some (eI (a1))]) (s2 := [eI (a1), eR a0]) rfl rfl rfl ?_
  refine j_pf (np := 5) (w := a1) rfl rfl hI gA0 (by decide) (n := 14) rfl rfl (hO_i (lo := -2147483648) (hi := 2147483647) rfl (by omega)) ?_
  intro m1 I2 W3
  have F4 : Fr l_205 0 0 g μ m1 := F0.w W3 gA0 rfl
  refine w_t (np := 6) (l2 := [some (eR a0), some (eI (a1))]) (s2 := [eI (-1)]) rfl rfl rfl ?_
  exact b_ri rfl rfl (K m1 (-1) I2 F4 (by decide))
