/-! grow: its ends -/
def l_14p_0 : List Nat := [12292, 13056]
theorem s_14p_0 {L : Nat} {ρ : Nat → Int} {rc : eQ} {d : Nat} {f : eFr} {F : List eFr} {μ : eM} {g : Nat → Nat} {a0 : Nat} (hI : SI g μ) (gA0 : g a0 = 48) (K : ∀ (g2 : Nat → Nat) (μ2 : eM) (t r : Nat) (o : Option eV) (c s : Nat), GE g g2 → SI g2 μ2 → Fr l_14p_0 c s g μ μ2 → (μ.1 a0 3 ≠ 0 ∧ c = 0 ∧ s = 0 ∨ μ.1 a0 3 = 0 ∧ c ≤ 30 ∧ s ≤ 11400) → g2 t = 42 → μ2.1 a0 3 = (t : Int) → μ2.1 a0 2 = (r : Int) → g2 r = 51 → μ2.1 r 0 = 0 → ex_q (dt_fg L ρ) rc (d + 3, (14, 42, [some (eR a0), some (eI (0)), o, none], []), f :: F, μ2)) : ex_q (dt_fg L ρ) rc (d + 3, (14, 0, [some (eR a0), some (eI (0)), none, none], []), f :: F, μ) := by
  have F0 : Fr l_14p_0 0 0 g μ μ := Fr.r
  refine w_t (np := 1) (l2 := [some (eR a0), some (eI (0)), none, none]) (s2 := [eR a0]) rfl (s_an rfl (pos_g hI gA0 (by decide))) rfl ?_
  refine j_gr (np := 4) rfl rfl hI gA0 (by decide) (n := 4) rfl rfl rfl ?_
  intro v1 e2 b3 z4
  rcases hor2 b3 with b3 | b3
  · have z4 : v1 = 0 := z4 b3
    subst z4
    refine v_nn_f (t1 := 35) rfl rfl rfl ?_
    show ex_q (dt_fg L ρ) rc (d + 3, (14, 7, [some (eR a0), some (eI (0)), none, none], []), f :: F, μ)
    refine j_no (np := 10) (n := 8) rfl rfl rfl hI ?_
    intro r5 m6 I7 F8 U9 O10
    have F11 : Fr l_14p_0 1 8 g μ m6 := F0.t F8 rfl
    have U9 : UC g m6 r5 2 8 [0, 0, 0, 0, 0, 0, 0, 0] := U9
    refine w_t (np := 11) (l2 := [some (eR a0), some (eI (0)), none, none]) (s2 := [eR r5, eR r5]) rfl rfl rfl ?_
    refine v_ci (np := 14) (as := []) (lv' := [some (eR r5)]) (rest := [eR r5]) rfl rfl rfl (Nat.ble_eq.mp rfl) rfl rfl rfl U9.2.1 rfl ?_
    refine w_t (np := 1) (l2 := [some (eR r5)]) (s2 := [eR r5]) rfl (s_an rfl (by have := U9.2.1; omega)) rfl ?_
    refine v_oi (np := 4) rfl rfl (by have := U9.2.1; omega) rfl ?_
    refine w_t (np := 5) (l2 := [some (eR r5)]) (s2 := [eR r5]) rfl (s_an rfl (by have := U9.2.1; omega)) rfl ?_
    refine w_t (np := 7) (l2 := [some (eR r5)]) (s2 := [eI (50), eR r5]) rfl rfl rfl ?_
    refine j_na (np := 9) (ρ := 3) (lo := 0) (hi := 1) rfl rfl I7 rfl (by decide) (by decide) (fun _ => rfl) (by decide) rfl ?_
    intro r12 g13 m14 I15 E16 b17 F18 U19 K20
    have F21 : Fr l_14p_0 2 58 g μ m14 := F11.t F18 rfl
    have U22 : UC g13 m14 r5 2 8 [0, 0, 0, 0, 0, 0, 0, 0] := U19 _ _ _ _ U9
    refine j_pu (np := 12) (w := ((r12 : Nat) : Int)) rfl rfl I15 U22 (Nat.ble_eq.mp rfl) rfl ?_
    intro m23 I24 F25 W26 U27
    have F28 : Fr l_14p_0 2 58 g μ m23 := F21.t3 E16 F25 rfl
    have U27 : UC g13 m23 r5 2 8 [((r12 : Nat) : Int), 0, 0, 0, 0, 0, 0, 0] := U27
    refine w_t (np := 13) (l2 := [some (eR r5)]) (s2 := [eR r5]) rfl (s_an rfl (by have := U27.2.1; omega)) rfl ?_
    refine w_t (np := 15) (l2 := [some (eR r5)]) (s2 := [eI (50), eR r5]) rfl rfl rfl ?_
    refine j_na (np := 17) (ρ := 4) (lo := -2147483648) (hi := 2147483647) rfl rfl I24 rfl (by decide) (by decide) (fun _ => rfl) (by decide) rfl ?_
    intro r29 g30 m31 I32 E33 b34 F35 U36 K37
    have F38 : Fr l_14p_0 3 108 g μ m31 := F28.t3 E16 F35 rfl
    have E39 := E16.t E33
    have U40 : UC g30 m31 r5 2 8 [((r12 : Nat) : Int), 0, 0, 0, 0, 0, 0, 0] := U36 _ _ _ _ U27
    refine j_pu (np := 20) (w := ((r29 : Nat) : Int)) rfl rfl I32 U40 (Nat.ble_eq.mp rfl) rfl ?_
    intro m41 I42 F43 W44 U45
    have F46 : Fr l_14p_0 3 108 g μ m41 := F38.t3 E39 F43 rfl
    have U45 : UC g30 m41 r5 2 8 [((r12 : Nat) : Int), ((r29 : Nat) : Int), 0, 0, 0, 0, 0, 0] := U45
    refine w_t (np := 21) (l2 := [some (eR r5)]) (s2 := [eR r5]) rfl (s_an rfl (by have := U45.2.1; omega)) rfl ?_
    refine w_t (np := 24) (l2 := [some (eR r5)]) (s2 := [eI (150), eR r5]) rfl rfl rfl ?_
    refine j_na (np := 26) (ρ := 5) (lo := 0) (hi := 511) rfl rfl I42 rfl (by decide) (by decide) (fun _ => rfl) (by decide) rfl ?_
    intro r47 g48 m49 I50 E51 b52 F53 U54 K55
    have F56 : Fr l_14p_0 4 258 g μ m49 := F46.t3 E39 F53 rfl
    have E57 := E39.t E51
    have U58 : UC g48 m49 r5 2 8 [((r12 : Nat) : Int), ((r29 : Nat) : Int), 0, 0, 0, 0, 0, 0] := U54 _ _ _ _ U45
    refine j_pu (np := 29) (w := ((r47 : Nat) : Int)) rfl rfl I50 U58 (Nat.ble_eq.mp rfl) rfl ?_
    intro m59 I60 F61 W62 U63
    have F64 : Fr l_14p_0 4 258 g μ m59 := F56.t3 E57 F61 rfl
    have U63 : UC g48 m59 r5 2 8 [((r12 : Nat) : Int), ((r29 : Nat) : Int), ((r47 : Nat) : Int), 0, 0, 0, 0, 0] := U63
    refine w_t (np := 30) (l2 := [some (eR r5)]) (s2 := [eR r5]) rfl (s_an rfl (by have := U63.2.1; omega)) rfl ?_
    refine w_t (np := 32) (l2 := [some (eR r5)]) (s2 := [eI (100), eR r5]) rfl rfl rfl ?_
    refine j_na (np := 34) (ρ := 6) (lo := 0) (hi := 9) rfl rfl I60 rfl (by decide) (by decide) (fun _ => rfl) (by decide) rfl ?_
    intro r65 g66 m67 I68 E69 b70 F71 U72 K73
    have F74 : Fr l_14p_0 5 358 g μ m67 := F64.t3 E57 F71 rfl
    have E75 := E57.t E69
    have U76 : UC g66 m67 r5 2 8 [((r12 : Nat) : Int), ((r29 : Nat) : Int), ((r47 : Nat) : Int), 0, 0, 0, 0, 0] := U72 _ _ _ _ U63
    refine j_pu (np := 37) (w := ((r65 : Nat) : Int)) rfl rfl I68 U76 (Nat.ble_eq.mp rfl) rfl ?_
    intro m77 I78 F79 W80 U81
    have F82 : Fr l_14p_0 5 358 g μ m77 := F74.t3 E75 F79 rfl
    have U81 : UC g66 m77 r5 2 8 [((r12 : Nat) : Int), ((r29 : Nat) : Int), ((r47 : Nat) : Int), ((r65 : Nat) : Int), 0, 0, 0, 0] := U81
    refine w_t (np := 38) (l2 := [some (eR r5)]) (s2 := [eR r5]) rfl (s_an rfl (by have := U81.2.1; omega)) rfl ?_
    refine j_no (np := 41) (n := 3) rfl rfl rfl I78 ?_
    intro r83 m84 I85 F86 U87 O88
    have F89 : Fr l_14p_0 6 361 g μ m84 := F82.t3 E75 F86 rfl
    have U90 := (O88 _ _ _ _ U81).1
    have U90n := (O88 _ _ _ _ U81).2
    have U87 : UC g66 m84 r83 3 3 [0, 0, 0] := U87
    refine w_t (np := 42) (l2 := [some (eR r5)]) (s2 := [eR r83, eR r83, eR r5]) rfl rfl rfl ?_
    refine v_ci (np := 45) (as := []) (lv' := [some (eR r83)]) (rest := [eR r83, eR r5]) rfl rfl rfl (Nat.ble_eq.mp rfl) rfl rfl rfl U87.2.1 rfl ?_
    refine w_t (np := 1) (l2 := [some (eR r83)]) (s2 := [eR r83]) rfl (s_an rfl (by have := U87.2.1; omega)) rfl ?_
    refine v_oi (np := 4) rfl rfl (by have := U87.2.1; omega) rfl ?_
    refine w_t (np := 5) (l2 := [some (eR r83)]) (s2 := [eR r83]) rfl (s_an rfl (by have := U87.2.1; omega)) rfl ?_
    refine w_t (np := 7) (l2 := [some (eR r83)]) (s2 := [eI (64), eR r83]) rfl rfl rfl ?_
    refine j_na (np := 9) (ρ := 13) (lo := -9223372036854775808) (hi := 9223372036854775807) rfl rfl I85 rfl (by decide) (by decide) (fun _ => rfl) (by decide) rfl ?_
    intro r91 g92 m93 I94 E95 b96 F97 U98 K99
    have F100 : Fr l_14p_0 7 425 g μ m93 := F89.t3 E75 F97 rfl
    have E101 := E75.t E95
    have U102 : UC g92 m93 r5 2 8 [((r12 : Nat) : Int), ((r29 : Nat) : Int), ((r47 : Nat) : Int), ((r65 : Nat) : Int), 0, 0, 0, 0] := U98 _ _ _ _ U90
    have U103 : UC g92 m93 r83 3 3 [0, 0, 0] := U98 _ _ _ _ U87
    refine j_pu (np := 12) (w := ((r91 : Nat) : Int)) rfl rfl I94 U103 (Nat.ble_eq.mp rfl) rfl ?_
    intro m104 I105 F106 W107 U108
    have F109 : Fr l_14p_0 7 425 g μ m104 := F100.t3 E101 F106 rfl
    have U108 : UC g92 m104 r83 3 3 [((r91 : Nat) : Int), 0, 0] := U108
    have U110 : UC g92 m104 r5 2 8 [((r12 : Nat) : Int), ((r29 : Nat) : Int), ((r47 : Nat) : Int), ((r65 : Nat) : Int), 0, 0, 0, 0] := U102.o W107 (fun z => U90n z.symm)
    refine w_t (np := 13) (l2 := [some (eR r83)]) (s2 := [eR r83]) rfl (s_an rfl (by have := U108.2.1; omega)) rfl ?_
    refine w_t (np := 16) (l2 := [some (eR r83)]) (s2 := [eI (128), eR r83]) rfl rfl rfl ?_
    refine j_na (np := 18) (ρ := 14) (lo := 0) (hi := 64) rfl rfl I105 rfl (by decide) (by decide) (fun _ => rfl) (by decide) rfl ?_
    intro r111 g112 m113 I114 E115 b116 F117 U118 K119
    have F120 : Fr l_14p_0 8 553 g μ m113 := F109.t3 E101 F117 rfl
    have E121 := E101.t E115
    have U122 : UC g112 m113 r5 2 8 [((r12 : Nat) : Int), ((r29 : Nat) : Int), ((r47 : Nat) : Int), ((r65 : Nat) : Int), 0, 0, 0, 0] := U118 _ _ _ _ U110
    have U123 : UC g112 m113 r83 3 3 [((r91 : Nat) : Int), 0, 0] := U118 _ _ _ _ U108
    refine j_pu (np := 21) (w := ((r111 : Nat) : Int)) rfl rfl I114 U123 (Nat.ble_eq.mp rfl) rfl ?_
    intro m124 I125 F126 W127 U128
    have F129 : Fr l_14p_0 8 553 g μ m124 := F120.t3 E121 F126 rfl
    have U128 : UC g112 m124 r83 3 3 [((r91 : Nat) : Int), ((r111 : Nat) : Int), 0] := U128
    have U130 : UC g112 m124 r5 2 8 [((r12 : Nat) : Int), ((r29 : Nat) : Int), ((r47 : Nat) : Int), ((r65 : Nat) : Int), 0, 0, 0, 0] := U122.o W127 (fun z => U90n z.symm)
    refine v_rv rfl rfl ?_
    show ex_q (dt_fg L ρ) rc (d + 2, (16, 45, [some (eR r5)], [eR r83, eR r5]), (14, 14, [some (eR a0), some (eI (0)), none, none], [eR r5]) :: f :: F, m124)
    obtain ⟨g131, I132, E133, b134, X135⟩ := U128.pb2 (ρ := 12) I125 (by decide) (by decide) rfl (fun k hk => match k, hk with
      | 0, _ => hO_r (b := r91) rfl (by rw [(E115.g b96 (by decide))]; rfl) (fun q => absurd q (by rw [(E115.g b96 (by decide))]; decide))
      | 1, _ => hO_r (b := r111) rfl (by rw [b116]; rfl) (fun q => absurd q (by rw [b116]; decide))
      | 2, _ => hO_i (x := 0) (lo := 0) (hi := 64) rfl (by decide)
      | k + 3, hk => absurd hk (by omega))
    have E136 := E121.t E133
    have U137 : UC g131 m124 r5 2 8 [((r12 : Nat) : Int), ((r29 : Nat) : Int), ((r47 : Nat) : Int), ((r65 : Nat) : Int), 0, 0, 0, 0] := U130.ge (a := r83) (ρ := 0) X135 U90n
    refine j_pu (np := 48) (w := ((r83 : Nat) : Int)) rfl rfl I132 U137 (Nat.ble_eq.mp rfl) rfl ?_
    intro m138 I139 F140 W141 U142
    have F143 : Fr l_14p_0 8 553 g μ m138 := F129.t3 E136 F140 rfl
    have U142 : UC g131 m138 r5 2 8 [((r12 : Nat) : Int), ((r29 : Nat) : Int), ((r47 : Nat) : Int), ((r65 : Nat) : Int), ((r83 : Nat) : Int), 0, 0, 0] := U142
    refine v_rv rfl rfl ?_
    show ex_q (dt_fg L ρ) rc (d + 3, (14, 14, [some (eR a0), some (eI (0)), none, none], [eR r5]), f :: F, m138)
    obtain ⟨g144, I145, E146, b147⟩ := U142.pb (ρ := 2) I139 (by decide) (by decide) rfl (fun k hk => match k, hk with
      | 0, _ => hO_r (b := r12) rfl (by rw [(E133.g (E115.g (E95.g (E69.g (E51.g (E33.g b17 (by decide)) (by decide)) (by decide)) (by decide)) (by decide)) (by decide))]; rfl) (fun q => absurd q (by rw [(E133.g (E115.g (E95.g (E69.g (E51.g (E33.g b17 (by decide)) (by decide)) (by decide)) (by decide)) (by decide)) (by decide))]; decide))
      | 1, _ => hO_r (b := r29) rfl (by rw [(E133.g (E115.g (E95.g (E69.g (E51.g b34 (by decide)) (by decide)) (by decide)) (by decide)) (by decide))]; rfl) (fun q => absurd q (by rw [(E133.g (E115.g (E95.g (E69.g (E51.g b34 (by decide)) (by decide)) (by decide)) (by decide)) (by decide))]; decide))
      | 2, _ => hO_r (b := r47) rfl (by rw [(E133.g (E115.g (E95.g (E69.g b52 (by decide)) (by decide)) (by decide)) (by decide))]; rfl) (fun q => absurd q (by rw [(E133.g (E115.g (E95.g (E69.g b52 (by decide)) (by decide)) (by decide)) (by decide))]; decide))
      | 3, _ => hO_r (b := r65) rfl (by rw [(E133.g (E115.g (E95.g b70 (by decide)) (by decide)) (by decide))]; rfl) (fun q => absurd q (by rw [(E133.g (E115.g (E95.g b70 (by decide)) (by decide)) (by decide))]; decide))
      | 4, _ => hO_r (b := r83) rfl (by rw [b134]; rfl) (fun q => absurd q (by rw [b134]; decide))
      | 5, _ => hO_i (x := 0) (lo := 0) (hi := 3) rfl (by decide)
      | 6, _ => hO_i (x := 0) (lo := 0) (hi := 5) rfl (by decide)
      | 7, _ => hO_i (x := 0) (lo := 0) (hi := 50) rfl (by decide)
      | k + 8, hk => absurd hk (by omega))
    have E149 := E136.t E146
    refine w_t (np := 15) (l2 := [some (eR a0), some (eI (0)), some (eR r5), none]) (s2 := []) rfl (s_sn (Nat.ble_eq.mp rfl) (pos_g I145 b147 (by decide)) rfl) rfl ?_
    refine w_t (np := 16) (l2 := [some (eR a0), some (eI (0)), some (eR r5), none]) (s2 := [eR a0]) rfl (s_an rfl (pos_g I145 (E146.g (E133.g (E115.g (E95.g (E69.g (E51.g (E33.g (E16.g gA0 (by decide)) (by decide)) (by decide)) (by decide)) (by decide)) (by decide)) (by decide)) (by decide)) (by decide))) rfl ?_
    refine j_no (np := 19) (n := 10) rfl rfl rfl I145 ?_
    intro r150 m151 I152 F153 U154 O155
    have F156 : Fr l_14p_0 9 563 g μ m151 := F143.t3 E149 F153 rfl
    have U154 : UC g144 m151 r150 0 10 [0, 0, 0, 0, 0, 0, 0, 0, 0, 0] := U154
    refine w_t (np := 20) (l2 := [some (eR a0), some (eI (0)), some (eR r5), none]) (s2 := [eR r150, eR r150, eR a0]) rfl rfl rfl ?_
    refine w_t (np := 21) (l2 := [some (eR a0), some (eI (0)), some (eR r5), none]) (s2 := [eR r5, eR r150, eR r150, eR a0]) rfl (s_an rfl (pos_g I152 b147 (by decide))) rfl ?_
    refine j_no (np := 24) (n := 15) rfl rfl rfl I152 ?_
    intro r157 m158 I159 F160 U161 O162
    have F163 : Fr l_14p_0 10 578 g μ m158 := F156.t3 E149 F160 rfl
    have U164 := (O162 _ _ _ _ U154).1
    have U164n := (O162 _ _ _ _ U154).2
    have U161 : UC g144 m158 r157 8 15 [0, 0, 0, 0, 0, 0, 0, 0, 0, 0, 0, 0, 0, 0, 0] := U161
    refine w_t (np := 25) (l2 := [some (eR a0), some (eI (0)), some (eR r5), none]) (s2 := [eR r157, eR r157, eR r5, eR r150, eR r150, eR a0]) rfl rfl rfl ?_
    refine w_t (np := 26) (l2 := [some (eR a0), some (eI (0)), some (eR r5), none]) (s2 := [eR r5, eR r157, eR r157, eR r5, eR r150, eR r150, eR a0]) rfl (s_an rfl (pos_g I159 b147 (by decide))) rfl ?_
    refine v_ci (np := 29) (as := [eR r5]) (lv' := [some (eR r157), some (eR r5)]) (rest := [eR r157, eR r5, eR r150, eR r150, eR a0]) rfl rfl rfl (Nat.ble_eq.mp rfl) rfl rfl rfl U161.2.1 rfl ?_
    refine w_t (np := 1) (l2 := [some (eR r157), some (eR r5)]) (s2 := [eR r157]) rfl (s_an rfl (by have := U161.2.1; omega)) rfl ?_
    refine v_oi (np := 4) rfl rfl (by have := U161.2.1; omega) rfl ?_
    refine w_t (np := 5) (l2 := [some (eR r157), some (eR r5)]) (s2 := [eR r157]) rfl (s_an rfl (by have := U161.2.1; omega)) rfl ?_
    refine w_t (np := 6) (l2 := [some (eR r157), some (eR r5)]) (s2 := [eR r5, eR r157]) rfl (s_an rfl (pos_g I159 b147 (by decide))) rfl ?_
    refine j_pu (np := 9) (w := ((r5 : Nat) : Int)) rfl rfl I159 U161 (Nat.ble_eq.mp rfl) rfl ?_
    intro m165 I166 F167 W168 U169
    have F170 : Fr l_14p_0 10 578 g μ m165 := F163.t3 E149 F167 rfl
    have U169 : UC g144 m165 r157 8 15 [0, 0, 0, 0, 0, 0, ((r5 : Nat) : Int), 0, 0, 0, 0, 0, 0, 0, 0] := U169
    have U171 : UC g144 m165 r150 0 10 [0, 0, 0, 0, 0, 0, 0, 0, 0, 0] := U164.o W168 (fun z => U164n z.symm)
    refine w_t (np := 10) (l2 := [some (eR r157), some (eR r5)]) (s2 := [eR r157]) rfl (s_an rfl (by have := U169.2.1; omega)) rfl ?_
    refine w_t (np := 13) (l2 := [some (eR r157), some (eR r5)]) (s2 := [eI (2670), eR r157]) rfl rfl rfl ?_
    refine j_na (np := 15) (ρ := 36) (lo := -1) (hi := 2669) rfl rfl I166 rfl (by decide) (by decide) (fun _ => rfl) (by decide) rfl ?_
    intro r172 g173 m174 I175 E176 b177 F178 U179 K180
    have F181 : Fr l_14p_0 11 3248 g μ m174 := F170.t3 E149 F178 rfl
    have E182 := E149.t E176
    have U183 : UC g173 m174 r150 0 10 [0, 0, 0, 0, 0, 0, 0, 0, 0, 0] := U179 _ _ _ _ U171
    have U184 : UC g173 m174 r157 8 15 [0, 0, 0, 0, 0, 0, ((r5 : Nat) : Int), 0, 0, 0, 0, 0, 0, 0, 0] := U179 _ _ _ _ U169
    refine j_pu (np := 18) (w := ((r172 : Nat) : Int)) rfl rfl I175 U184 (Nat.ble_eq.mp rfl) rfl ?_
    intro m185 I186 F187 W188 U189
    have F190 : Fr l_14p_0 11 3248 g μ m185 := F181.t3 E182 F187 rfl
    have U189 : UC g173 m185 r157 8 15 [((r172 : Nat) : Int), 0, 0, 0, 0, 0, ((r5 : Nat) : Int), 0, 0, 0, 0, 0, 0, 0, 0] := U189
    have U191 : UC g173 m185 r150 0 10 [0, 0, 0, 0, 0, 0, 0, 0, 0, 0] := U183.o W188 (fun z => U164n z.symm)
    refine w_t (np := 19) (l2 := [some (eR r157), some (eR r5)]) (s2 := [eR r157]) rfl (s_an rfl (by have := U189.2.1; omega)) rfl ?_
    refine w_t (np := 22) (l2 := [some (eR r157), some (eR r5)]) (s2 := [eI (512), eR r157]) rfl rfl rfl ?_
    refine j_na (np := 24) (ρ := 37) (lo := -1) (hi := 2669) rfl rfl I186 rfl (by decide) (by decide) (fun _ => rfl) (by decide) rfl ?_
    intro r192 g193 m194 I195 E196 b197 F198 U199 K200
    have F201 : Fr l_14p_0 12 3760 g μ m194 := F190.t3 E182 F198 rfl
    have E202 := E182.t E196
    have U203 : UC g193 m194 r150 0 10 [0, 0, 0, 0, 0, 0, 0, 0, 0, 0] := U199 _ _ _ _ U191
    have U204 : UC g193 m194 r157 8 15 [((r172 : Nat) : Int), 0, 0, 0, 0, 0, ((r5 : Nat) : Int), 0, 0, 0, 0, 0, 0, 0, 0] := U199 _ _ _ _ U189
    refine j_pu (np := 27) (w := ((r192 : Nat) : Int)) rfl rfl I195 U204 (Nat.ble_eq.mp rfl) rfl ?_
    intro m205 I206 F207 W208 U209
    have F210 : Fr l_14p_0 12 3760 g μ m205 := F201.t3 E202 F207 rfl
    have U209 : UC g193 m205 r157 8 15 [((r172 : Nat) : Int), ((r192 : Nat) : Int), 0, 0, 0, 0, ((r5 : Nat) : Int), 0, 0, 0, 0, 0, 0, 0, 0] := U209
    have U211 : UC g193 m205 r150 0 10 [0, 0, 0, 0, 0, 0, 0, 0, 0, 0] := U203.o W208 (fun z => U164n z.symm)
    refine w_t (np := 28) (l2 := [some (eR r157), some (eR r5)]) (s2 := [eR r157]) rfl (s_an rfl (by have := U209.2.1; omega)) rfl ?_
    refine w_t (np := 31) (l2 := [some (eR r157), some (eR r5)]) (s2 := [eI (2670), eR r157]) rfl rfl rfl ?_
    refine j_na (np := 33) (ρ := 38) (lo := -1) (hi := 2669) rfl rfl I206 rfl (by decide) (by decide) (fun _ => rfl) (by decide) rfl ?_
    intro r212 g213 m214 I215 E216 b217 F218 U219 K220
    have F221 : Fr l_14p_0 13 6430 g μ m214 := F210.t3 E202 F218 rfl
    have E222 := E202.t E216
    have U223 : UC g213 m214 r150 0 10 [0, 0, 0, 0, 0, 0, 0, 0, 0, 0] := U219 _ _ _ _ U211
    have U224 : UC g213 m214 r157 8 15 [((r172 : Nat) : Int), ((r192 : Nat) : Int), 0, 0, 0, 0, ((r5 : Nat) : Int), 0, 0, 0, 0, 0, 0, 0, 0] := U219 _ _ _ _ U209
    refine j_pu (np := 36) (w := ((r212 : Nat) : Int)) rfl rfl I215 U224 (Nat.ble_eq.mp rfl) rfl ?_
    intro m225 I226 F227 W228 U229
    have F230 : Fr l_14p_0 13 6430 g μ m225 := F221.t3 E222 F227 rfl
    have U229 : UC g213 m225 r157 8 15 [((r172 : Nat) : Int), ((r192 : Nat) : Int), ((r212 : Nat) : Int), 0, 0, 0, ((r5 : Nat) : Int), 0, 0, 0, 0, 0, 0, 0, 0] := U229
    have U231 : UC g213 m225 r150 0 10 [0, 0, 0, 0, 0, 0, 0, 0, 0, 0] := U223.o W228 (fun z => U164n z.symm)
    refine w_t (np := 37) (l2 := [some (eR r157), some (eR r5)]) (s2 := [eR r157]) rfl (s_an rfl (by have := U229.2.1; omega)) rfl ?_
    refine w_t (np := 40) (l2 := [some (eR r157), some (eR r5)]) (s2 := [eI (890), eR r157]) rfl rfl rfl ?_
    refine j_na (np := 42) (ρ := 39) (lo := -2147483648) (hi := 2147483647) rfl rfl I226 rfl (by decide) (by decide) (fun _ => rfl) (by decide) rfl ?_
    intro r232 g233 m234 I235 E236 b237 F238 U239 K240
    have F241 : Fr l_14p_0 14 7320 g μ m234 := F230.t3 E222 F238 rfl
    have E242 := E222.t E236
    have U243 : UC g233 m234 r150 0 10 [0, 0, 0, 0, 0, 0, 0, 0, 0, 0] := U239 _ _ _ _ U231
    have U244 : UC g233 m234 r157 8 15 [((r172 : Nat) : Int), ((r192 : Nat) : Int), ((r212 : Nat) : Int), 0, 0, 0, ((r5 : Nat) : Int), 0, 0, 0, 0, 0, 0, 0, 0] := U239 _ _ _ _ U229
    refine j_pu (np := 45) (w := ((r232 : Nat) : Int)) rfl rfl I235 U244 (Nat.ble_eq.mp rfl) rfl ?_
    intro m245 I246 F247 W248 U249
    have F250 : Fr l_14p_0 14 7320 g μ m245 := F241.t3 E242 F247 rfl
    have U249 : UC g233 m245 r157 8 15 [((r172 : Nat) : Int), ((r192 : Nat) : Int), ((r212 : Nat) : Int), ((r232 : Nat) : Int), 0, 0, ((r5 : Nat) : Int), 0, 0, 0, 0, 0, 0, 0, 0] := U249
    have U251 : UC g233 m245 r150 0 10 [0, 0, 0, 0, 0, 0, 0, 0, 0, 0] := U243.o W248 (fun z => U164n z.symm)
    refine w_t (np := 46) (l2 := [some (eR r157), some (eR r5)]) (s2 := [eR r157]) rfl (s_an rfl (by have := U249.2.1; omega)) rfl ?_
    refine w_t (np := 49) (l2 := [some (eR r157), some (eR r5)]) (s2 := [eI (890), eR r157]) rfl rfl rfl ?_
    refine j_na (np := 51) (ρ := 40) (lo := 0) (hi := 889) rfl rfl I246 rfl (by decide) (by decide) (fun _ => rfl) (by decide) rfl ?_
    intro r252 g253 m254 I255 E256 b257 F258 U259 K260
    have F261 : Fr l_14p_0 15 8210 g μ m254 := F250.t3 E242 F258 rfl
    have E262 := E242.t E256
    have U263 : UC g253 m254 r150 0 10 [0, 0, 0, 0, 0, 0, 0, 0, 0, 0] := U259 _ _ _ _ U251
    have U264 : UC g253 m254 r157 8 15 [((r172 : Nat) : Int), ((r192 : Nat) : Int), ((r212 : Nat) : Int), ((r232 : Nat) : Int), 0, 0, ((r5 : Nat) : Int), 0, 0, 0, 0, 0, 0, 0, 0] := U259 _ _ _ _ U249
    refine j_pu (np := 54) (w := ((r252 : Nat) : Int)) rfl rfl I255 U264 (Nat.ble_eq.mp rfl) rfl ?_
    intro m265 I266 F267 W268 U269
    have F270 : Fr l_14p_0 15 8210 g μ m265 := F261.t3 E262 F267 rfl
    have U269 : UC g253 m265 r157 8 15 [((r172 : Nat) : Int), ((r192 : Nat) : Int), ((r212 : Nat) : Int), ((r232 : Nat) : Int), ((r252 : Nat) : Int), 0, ((r5 : Nat) : Int), 0, 0, 0, 0, 0, 0, 0, 0] := U269
    have U271 : UC g253 m265 r150 0 10 [0, 0, 0, 0, 0, 0, 0, 0, 0, 0] := U263.o W268 (fun z => U164n z.symm)
    refine w_t (np := 55) (l2 := [some (eR r157), some (eR r5)]) (s2 := [eR r157]) rfl (s_an rfl (by have := U269.2.1; omega)) rfl ?_
    refine w_t (np := 58) (l2 := [some (eR r157), some (eR r5)]) (s2 := [eI (512), eR r157]) rfl rfl rfl ?_
    refine j_na (np := 60) (ρ := 41) (lo := -1) (hi := 511) rfl rfl I266 rfl (by decide) (by decide) (fun _ => rfl) (by decide) rfl ?_
    intro r272 g273 m274 I275 E276 b277 F278 U279 K280
    have F281 : Fr l_14p_0 16 8722 g μ m274 := F270.t3 E262 F278 rfl
    have E282 := E262.t E276
    have U283 : UC g273 m274 r150 0 10 [0, 0, 0, 0, 0, 0, 0, 0, 0, 0] := U279 _ _ _ _ U271
    have U284 : UC g273 m274 r157 8 15 [((r172 : Nat) : Int), ((r192 : Nat) : Int), ((r212 : Nat) : Int), ((r232 : Nat) : Int), ((r252 : Nat) : Int), 0, ((r5 : Nat) : Int), 0, 0, 0, 0, 0, 0, 0, 0] := U279 _ _ _ _ U269
    refine j_pu (np := 63) (w := ((r272 : Nat) : Int)) rfl rfl I275 U284 (Nat.ble_eq.mp rfl) rfl ?_
    intro m285 I286 F287 W288 U289
    have F290 : Fr l_14p_0 16 8722 g μ m285 := F281.t3 E282 F287 rfl
    have U289 : UC g273 m285 r157 8 15 [((r172 : Nat) : Int), ((r192 : Nat) : Int), ((r212 : Nat) : Int), ((r232 : Nat) : Int), ((r252 : Nat) : Int), ((r272 : Nat) : Int), ((r5 : Nat) : Int), 0, 0, 0, 0, 0, 0, 0, 0] := U289
    have U291 : UC g273 m285 r150 0 10 [0, 0, 0, 0, 0, 0, 0, 0, 0, 0] := U283.o W288 (fun z => U164n z.symm)
    refine v_rv rfl rfl ?_
    show ex_q (dt_fg L ρ) rc (d + 3, (14, 29, [some (eR a0), some (eI (0)), some (eR r5), none], [eR r157, eR r5, eR r150, eR r150, eR a0]), f :: F, m285)
    obtain ⟨g292, I293, E294, b295, X296⟩ := U289.pb2 (ρ := 35) I286 (by decide) (by decide) rfl (fun k hk => match k, hk with
      | 0, _ => hO_r (b := r172) rfl (by rw [(E276.g (E256.g (E236.g (E216.g (E196.g b177 (by decide)) (by decide)) (by decide)) (by decide)) (by decide))]; rfl) (fun q => absurd q (by rw [(E276.g (E256.g (E236.g (E216.g (E196.g b177 (by decide)) (by decide)) (by decide)) (by decide)) (by decide))]; decide))
      | 1, _ => hO_r (b := r192) rfl (by rw [(E276.g (E256.g (E236.g (E216.g b197 (by decide)) (by decide)) (by decide)) (by decide))]; rfl) (fun q => absurd q (by rw [(E276.g (E256.g (E236.g (E216.g b197 (by decide)) (by decide)) (by decide)) (by decide))]; decide))
      | 2, _ => hO_r (b := r212) rfl (by rw [(E276.g (E256.g (E236.g b217 (by decide)) (by decide)) (by decide))]; rfl) (fun q => absurd q (by rw [(E276.g (E256.g (E236.g b217 (by decide)) (by decide)) (by decide))]; decide))
      | 3, _ => hO_r (b := r232) rfl (by rw [(E276.g (E256.g b237 (by decide)) (by decide))]; rfl) (fun q => absurd q (by rw [(E276.g (E256.g b237 (by decide)) (by decide))]; decide))
      | 4, _ => hO_r (b := r252) rfl (by rw [(E276.g b257 (by decide))]; rfl) (fun q => absurd q (by rw [(E276.g b257 (by decide))]; decide))
      | 5, _ => hO_r (b := r272) rfl (by rw [b277]; rfl) (fun q => absurd q (by rw [b277]; decide))
      | 6, _ => hO_r (b := r5) rfl (by rw [(E276.g (E256.g (E236.g (E216.g (E196.g (E176.g b147 (by decide)) (by decide)) (by decide)) (by decide)) (by decide)) (by decide))]; rfl) (fun q => absurd q (by rw [(E276.g (E256.g (E236.g (E216.g (E196.g (E176.g b147 (by decide)) (by decide)) (by decide)) (by decide)) (by decide)) (by decide))]; decide))
      | 7, _ => hO_i (x := 0) (lo := -2147483648) (hi := 2147483647) rfl (by decide)
      | 8, _ => hO_i (x := 0) (lo := -2147483648) (hi := 2147483647) rfl (by decide)
      | 9, _ => hO_i (x := 0) (lo := -2147483648) (hi := 2147483647) rfl (by decide)
      | 10, _ => hO_i (x := 0) (lo := -2147483648) (hi := 2147483647) rfl (by decide)
      | 11, _ => hO_i (x := 0) (lo := -2147483648) (hi := 2147483647) rfl (by decide)
      | 12, _ => hO_i (x := 0) (lo := -2147483648) (hi := 2147483647) rfl (by decide)
      | 13, _ => hO_i (x := 0) (lo := -2147483648) (hi := 2147483647) rfl (by decide)
      | 14, _ => hO_i (x := 0) (lo := -2147483648) (hi := 2147483647) rfl (by decide)
      | k + 15, hk => absurd hk (by omega))
    have E297 := E282.t E294
    have U298 : UC g292 m285 r150 0 10 [0, 0, 0, 0, 0, 0, 0, 0, 0, 0] := U291.ge (a := r157) (ρ := 0) X296 U164n
    refine v_ci (np := 32) (as := [eR r5, eR r157]) (lv' := [some (eR r150), some (eR r5), some (eR r157)]) (rest := [eR r150, eR a0]) rfl rfl rfl (Nat.ble_eq.mp rfl) rfl rfl rfl U298.2.1 rfl ?_
    refine w_t (np := 1) (l2 := [some (eR r150), some (eR r5), some (eR r157)]) (s2 := [eR r150]) rfl (s_an rfl (by have := U298.2.1; omega)) rfl ?_
    refine v_oi (np := 4) rfl rfl (by have := U298.2.1; omega) rfl ?_
    refine w_t (np := 5) (l2 := [some (eR r150), some (eR r5), some (eR r157)]) (s2 := [eR r150]) rfl (s_an rfl (by have := U298.2.1; omega)) rfl ?_
    refine w_t (np := 6) (l2 := [some (eR r150), some (eR r5), some (eR r157)]) (s2 := [eR r5, eR r150]) rfl (s_an rfl (pos_g I293 (E294.g (E276.g (E256.g (E236.g (E216.g (E196.g (E176.g b147 (by decide)) (by decide)) (by decide)) (by decide)) (by decide)) (by decide)) (by decide)) (by decide))) rfl ?_
    refine j_pu (np := 9) (w := ((r5 : Nat) : Int)) rfl rfl I293 U298 (Nat.ble_eq.mp rfl) rfl ?_
    intro m299 I300 F301 W302 U303
    have F304 : Fr l_14p_0 16 8722 g μ m299 := F290.t3 E297 F301 rfl
    have U303 : UC g292 m299 r150 0 10 [0, 0, 0, 0, 0, ((r5 : Nat) : Int), 0, 0, 0, 0] := U303
    refine w_t (np := 10) (l2 := [some (eR r150), some (eR r5), some (eR r157)]) (s2 := [eR r150]) rfl (s_an rfl (by have := U303.2.1; omega)) rfl ?_
    refine w_t (np := 11) (l2 := [some (eR r150), some (eR r5), some (eR r157)]) (s2 := [eR r157, eR r150]) rfl (s_an rfl (pos_g I300 b295 (by decide))) rfl ?_
    refine j_pu (np := 14) (w := ((r157 : Nat) : Int)) rfl rfl I300 U303 (Nat.ble_eq.mp rfl) rfl ?_
    intro m305 I306 F307 W308 U309
    have F310 : Fr l_14p_0 16 8722 g μ m305 := F304.t3 E297 F307 rfl
    have U309 : UC g292 m305 r150 0 10 [0, 0, 0, 0, 0, ((r5 : Nat) : Int), ((r157 : Nat) : Int), 0, 0, 0] := U309
    refine w_t (np := 15) (l2 := [some (eR r150), some (eR r5), some (eR r157)]) (s2 := [eR r150]) rfl (s_an rfl (by have := U309.2.1; omega)) rfl ?_
    refine w_t (np := 18) (l2 := [some (eR r150), some (eR r5), some (eR r157)]) (s2 := [eI (512), eR r150]) rfl rfl rfl ?_
    refine j_na (np := 20) (ρ := 43) (lo := -2147483648) (hi := 2147483647) rfl rfl I306 rfl (by decide) (by decide) (fun _ => rfl) (by decide) rfl ?_
    intro r311 g312 m313 I314 E315 b316 F317 U318 K319
    have F320 : Fr l_14p_0 17 9234 g μ m313 := F310.t3 E297 F317 rfl
    have E321 := E297.t E315
    have U322 : UC g312 m313 r150 0 10 [0, 0, 0, 0, 0, ((r5 : Nat) : Int), ((r157 : Nat) : Int), 0, 0, 0] := U318 _ _ _ _ U309
    refine j_pu (np := 23) (w := ((r311 : Nat) : Int)) rfl rfl I314 U322 (Nat.ble_eq.mp rfl) rfl ?_
    intro m323 I324 F325 W326 U327
    have F328 : Fr l_14p_0 17 9234 g μ m323 := F320.t3 E321 F325 rfl
    have U327 : UC g312 m323 r150 0 10 [((r311 : Nat) : Int), 0, 0, 0, 0, ((r5 : Nat) : Int), ((r157 : Nat) : Int), 0, 0, 0] := U327
    refine w_t (np := 24) (l2 := [some (eR r150), some (eR r5), some (eR r157)]) (s2 := [eR r150]) rfl (s_an rfl (by have := U327.2.1; omega)) rfl ?_
    refine w_t (np := 27) (l2 := [some (eR r150), some (eR r5), some (eR r157)]) (s2 := [eI (512), eR r150]) rfl rfl rfl ?_
    refine j_na (np := 29) (ρ := 44) (lo := -9223372036854775808) (hi := 9223372036854775807) rfl rfl I324 rfl (by decide) (by decide) (fun _ => rfl) (by decide) rfl ?_
    intro r329 g330 m331 I332 E333 b334 F335 U336 K337
    have F338 : Fr l_14p_0 18 9746 g μ m331 := F328.t3 E321 F335 rfl
    have E339 := E321.t E333
    have U340 : UC g330 m331 r150 0 10 [((r311 : Nat) : Int), 0, 0, 0, 0, ((r5 : Nat) : Int), ((r157 : Nat) : Int), 0, 0, 0] := U336 _ _ _ _ U327
    refine j_pu (np := 32) (w := ((r329 : Nat) : Int)) rfl rfl I332 U340 (Nat.ble_eq.mp rfl) rfl ?_
    intro m341 I342 F343 W344 U345
    have F346 : Fr l_14p_0 18 9746 g μ m341 := F338.t3 E339 F343 rfl
    have U345 : UC g330 m341 r150 0 10 [((r311 : Nat) : Int), ((r329 : Nat) : Int), 0, 0, 0, ((r5 : Nat) : Int), ((r157 : Nat) : Int), 0, 0, 0] := U345
    refine w_t (np := 33) (l2 := [some (eR r150), some (eR r5), some (eR r157)]) (s2 := [eR r150]) rfl (s_an rfl (by have := U345.2.1; omega)) rfl ?_
    refine w_t (np := 36) (l2 := [some (eR r150), some (eR r5), some (eR r157)]) (s2 := [eI (512), eR r150]) rfl rfl rfl ?_
    refine j_na (np := 38) (ρ := 45) (lo := 0) (hi := 1) rfl rfl I342 rfl (by decide) (by decide) (fun _ => rfl) (by decide) rfl ?_
    intro r347 g348 m349 I350 E351 b352 F353 U354 K355
    have F356 : Fr l_14p_0 19 10258 g μ m349 := F346.t3 E339 F353 rfl
    have E357 := E339.t E351
    have U358 : UC g348 m349 r150 0 10 [((r311 : Nat) : Int), ((r329 : Nat) : Int), 0, 0, 0, ((r5 : Nat) : Int), ((r157 : Nat) : Int), 0, 0, 0] := U354 _ _ _ _ U345
    refine j_pu (np := 41) (w := ((r347 : Nat) : Int)) rfl rfl I350 U358 (Nat.ble_eq.mp rfl) rfl ?_
    intro m359 I360 F361 W362 U363
    have F364 : Fr l_14p_0 19 10258 g μ m359 := F356.t3 E357 F361 rfl
    have U363 : UC g348 m359 r150 0 10 [((r311 : Nat) : Int), ((r329 : Nat) : Int), ((r347 : Nat) : Int), 0, 0, ((r5 : Nat) : Int), ((r157 : Nat) : Int), 0, 0, 0] := U363
    refine w_t (np := 42) (l2 := [some (eR r150), some (eR r5), some (eR r157)]) (s2 := [eR r150]) rfl (s_an rfl (by have := U363.2.1; omega)) rfl ?_
    refine w_t (np := 45) (l2 := [some (eR r150), some (eR r5), some (eR r157)]) (s2 := [eI (512), eR r150]) rfl rfl rfl ?_
    refine j_na (np := 47) (ρ := 46) (lo := -2147483648) (hi := 2147483647) rfl rfl I360 rfl (by decide) (by decide) (fun _ => rfl) (by decide) rfl ?_
    intro r365 g366 m367 I368 E369 b370 F371 U372 K373
    have F374 : Fr l_14p_0 20 10770 g μ m367 := F364.t3 E357 F371 rfl
    have E375 := E357.t E369
    have U376 : UC g366 m367 r150 0 10 [((r311 : Nat) : Int), ((r329 : Nat) : Int), ((r347 : Nat) : Int), 0, 0, ((r5 : Nat) : Int), ((r157 : Nat) : Int), 0, 0, 0] := U372 _ _ _ _ U363
    refine j_pu (np := 50) (w := ((r365 : Nat) : Int)) rfl rfl I368 U376 (Nat.ble_eq.mp rfl) rfl ?_
    intro m377 I378 F379 W380 U381
    have F382 : Fr l_14p_0 20 10770 g μ m377 := F374.t3 E375 F379 rfl
    have U381 : UC g366 m377 r150 0 10 [((r311 : Nat) : Int), ((r329 : Nat) : Int), ((r347 : Nat) : Int), ((r365 : Nat) : Int), 0, ((r5 : Nat) : Int), ((r157 : Nat) : Int), 0, 0, 0] := U381
    refine w_t (np := 51) (l2 := [some (eR r150), some (eR r5), some (eR r157)]) (s2 := [eR r150]) rfl (s_an rfl (by have := U381.2.1; omega)) rfl ?_
    refine w_t (np := 53) (l2 := [some (eR r150), some (eR r5), some (eR r157)]) (s2 := [eI (64), eR r150]) rfl rfl rfl ?_
    refine j_na (np := 55) (ρ := 47) (lo := -2147483648) (hi := 2147483647) rfl rfl I378 rfl (by decide) (by decide) (fun _ => rfl) (by decide) rfl ?_
    intro r383 g384 m385 I386 E387 b388 F389 U390 K391
    have F392 : Fr l_14p_0 21 10834 g μ m385 := F382.t3 E375 F389 rfl
    have E393 := E375.t E387
    have U394 : UC g384 m385 r150 0 10 [((r311 : Nat) : Int), ((r329 : Nat) : Int), ((r347 : Nat) : Int), ((r365 : Nat) : Int), 0, ((r5 : Nat) : Int), ((r157 : Nat) : Int), 0, 0, 0] := U390 _ _ _ _ U381
    refine j_pu (np := 58) (w := ((r383 : Nat) : Int)) rfl rfl I386 U394 (Nat.ble_eq.mp rfl) rfl ?_
    intro m395 I396 F397 W398 U399
    have F400 : Fr l_14p_0 21 10834 g μ m395 := F392.t3 E393 F397 rfl
    have U399 : UC g384 m395 r150 0 10 [((r311 : Nat) : Int), ((r329 : Nat) : Int), ((r347 : Nat) : Int), ((r365 : Nat) : Int), ((r383 : Nat) : Int), ((r5 : Nat) : Int), ((r157 : Nat) : Int), 0, 0, 0] := U399
    refine v_rv rfl rfl ?_
    show ex_q (dt_fg L ρ) rc (d + 3, (14, 32, [some (eR a0), some (eI (0)), some (eR r5), none], [eR r150, eR a0]), f :: F, m395)
    obtain ⟨g401, I402, E403, b404⟩ := U399.pb (ρ := 42) I396 (by decide) (by decide) rfl (fun k hk => match k, hk with
      | 0, _ => hO_r (b := r311) rfl (by rw [(E387.g (E369.g (E351.g (E333.g b316 (by decide)) (by decide)) (by decide)) (by decide))]; rfl) (fun q => absurd q (by rw [(E387.g (E369.g (E351.g (E333.g b316 (by decide)) (by decide)) (by decide)) (by decide))]; decide))
      | 1, _ => hO_r (b := r329) rfl (by rw [(E387.g (E369.g (E351.g b334 (by decide)) (by decide)) (by decide))]; rfl) (fun q => absurd q (by rw [(E387.g (E369.g (E351.g b334 (by decide)) (by decide)) (by decide))]; decide))
      | 2, _ => hO_r (b := r347) rfl (by rw [(E387.g (E369.g b352 (by decide)) (by decide))]; rfl) (fun q => absurd q (by rw [(E387.g (E369.g b352 (by decide)) (by decide))]; decide))
      | 3, _ => hO_r (b := r365) rfl (by rw [(E387.g b370 (by decide))]; rfl) (fun q => absurd q (by rw [(E387.g b370 (by decide))]; decide))
      | 4, _ => hO_r (b := r383) rfl (by rw [b388]; rfl) (fun q => absurd q (by rw [b388]; decide))
      | 5, _ => hO_r (b := r5) rfl (by rw [(E387.g (E369.g (E351.g (E333.g (E315.g (E294.g (E276.g (E256.g (E236.g (E216.g (E196.g (E176.g b147 (by decide)) (by decide)) (by decide)) (by decide)) (by decide)) (by decide)) (by decide)) (by decide)) (by decide)) (by decide)) (by decide)) (by decide))]; rfl) (fun q => absurd q (by rw [(E387.g (E369.g (E351.g (E333.g (E315.g (E294.g (E276.g (E256.g (E236.g (E216.g (E196.g (E176.g b147 (by decide)) (by decide)) (by decide)) (by decide)) (by decide)) (by decide)) (by decide)) (by decide)) (by decide)) (by decide)) (by decide)) (by decide))]; decide))
      | 6, _ => hO_r (b := r157) rfl (by rw [(E387.g (E369.g (E351.g (E333.g (E315.g b295 (by decide)) (by decide)) (by decide)) (by decide)) (by decide))]; rfl) (fun q => absurd q (by rw [(E387.g (E369.g (E351.g (E333.g (E315.g b295 (by decide)) (by decide)) (by decide)) (by decide)) (by decide))]; decide))
      | 7, _ => hO_i (x := 0) (lo := 0) (hi := 512) rfl (by decide)
      | 8, _ => hO_i (x := 0) (lo := -2147483648) (hi := 2147483647) rfl (by decide)
      | 9, _ => hO_i (x := 0) (lo := 0) (hi := 64) rfl (by decide)
      | k + 10, hk => absurd hk (by omega))
    have E406 := E393.t E403
    refine j_pf (np := 35) (w := ((r150 : Nat) : Int)) rfl rfl I402 (E403.g (E387.g (E369.g (E351.g (E333.g (E315.g (E294.g (E276.g (E256.g (E236.g (E216.g (E196.g (E176.g (E146.g (E133.g (E115.g (E95.g (E69.g (E51.g (E33.g (E16.g gA0 (by decide)) (by decide)) (by decide)) (by decide)) (by decide)) (by decide)) (by decide)) (by decide)) (by decide)) (by decide)) (by decide)) (by decide)) (by decide)) (by decide)) (by decide)) (by decide)) (by decide)) (by decide)) (by decide)) (by decide)) (by decide)) (by decide) (n := 4) rfl rfl (hO_r rfl (by rw [b404]; rfl) (fun q => absurd q (by rw [b404]; decide))) ?_
    intro m407 I408 W409
    have F410 : Fr l_14p_0 21 10834 g μ m407 := F400.w3 E406 W409 (E403.g (E387.g (E369.g (E351.g (E333.g (E315.g (E294.g (E276.g (E256.g (E236.g (E216.g (E196.g (E176.g (E146.g (E133.g (E115.g (E95.g (E69.g (E51.g (E33.g (E16.g gA0 (by decide)) (by decide)) (by decide)) (by decide)) (by decide)) (by decide)) (by decide)) (by decide)) (by decide)) (by decide)) (by decide)) (by decide)) (by decide)) (by decide)) (by decide)) (by decide)) (by decide)) (by decide)) (by decide)) (by decide)) (by decide)) rfl
    refine w_t (np := 36) (l2 := [some (eR a0), some (eI (0)), some (eR r5), none]) (s2 := [eR a0]) rfl (s_an rfl (pos_g I408 (E403.g (E387.g (E369.g (E351.g (E333.g (E315.g (E294.g (E276.g (E256.g (E236.g (E216.g (E196.g (E176.g (E146.g (E133.g (E115.g (E95.g (E69.g (E51.g (E33.g (E16.g gA0 (by decide)) (by decide)) (by decide)) (by decide)) (by decide)) (by decide)) (by decide)) (by decide)) (by decide)) (by decide)) (by decide)) (by decide)) (by decide)) (by decide)) (by decide)) (by decide)) (by decide)) (by decide)) (by decide)) (by decide)) (by decide)) (by decide))) rfl ?_
    refine j_gr (np := 39) rfl rfl I408 (E403.g (E387.g (E369.g (E351.g (E333.g (E315.g (E294.g (E276.g (E256.g (E236.g (E216.g (E196.g (E176.g (E146.g (E133.g (E115.g (E95.g (E69.g (E51.g (E33.g (E16.g gA0 (by decide)) (by decide)) (by decide)) (by decide)) (by decide)) (by decide)) (by decide)) (by decide)) (by decide)) (by decide)) (by decide)) (by decide)) (by decide)) (by decide)) (by decide)) (by decide)) (by decide)) (by decide)) (by decide)) (by decide)) (by decide)) (by decide) (n := 4) rfl rfl rfl ?_
    intro v411 e412 b413 z414
    have b413 : g401 v411 = 51 := Nat.eq_of_beq_eq_true b413
    refine w_t (np := 40) (l2 := [some (eR a0), some (eI (0)), some (eR r5), none]) (s2 := [eI (0), eR v411]) rfl rfl rfl ?_
    refine w_t (np := 41) (l2 := [some (eR a0), some (eI (0)), some (eR r5), none]) (s2 := [eI (0), eI (0), eR v411]) rfl rfl rfl ?_
    refine j_as (np := 42) rfl rfl I408 b413 (by decide) (n := 4) rfl rfl (lo := -1) (hi := 64) (fun _ => rfl) (by decide) (by decide) (by decide) ?_
    intro m415 I416 W417
    have F418 : Fr l_14p_0 21 10834 g μ m415 := F410.v3 E406 W417 b413 rfl rfl
    exact K g401 m415 r150 v411 _ _ _ E406 I416 F418 (Or.inr ⟨e2, by decide, by decide⟩) b404 (W417.addr W409.at b413 (E403.g (E387.g (E369.g (E351.g (E333.g (E315.g (E294.g (E276.g (E256.g (E236.g (E216.g (E196.g (E176.g (E146.g (E133.g (E115.g (E95.g (E69.g (E51.g (E33.g (E16.g gA0 (by decide)) (by decide)) (by decide)) (by decide)) (by decide)) (by decide)) (by decide)) (by decide)) (by decide)) (by decide)) (by decide)) (by decide)) (by decide)) (by decide)) (by decide)) (by decide)) (by decide)) (by decide)) (by decide)) (by decide)) (by decide)) (by decide)) (W417.addr e412 b413 (E403.g (E387.g (E369.g (E351.g (E333.g (E315.g (E294.g (E276.g (E256.g (E236.g (E216.g (E196.g (E176.g (E146.g (E133.g (E115.g (E95.g (E69.g (E51.g (E33.g (E16.g gA0 (by decide)) (by decide)) (by decide)) (by decide)) (by decide)) (by decide)) (by decide)) (by decide)) (by decide)) (by decide)) (by decide)) (by decide)) (by decide)) (by decide)) (by decide)) (by decide)) (by decide)) (by decide)) (by decide)) (by decide)) (by decide)) (by decide)) b413 W417.at
  · refine v_nn_t (t1 := 35) rfl rfl (beq_g hI b3 (by decide)) ?_
    refine w_t (np := 36) (l2 := [some (eR a0), some (eI (0)), none, none]) (s2 := [eR a0]) rfl (s_an rfl (pos_g hI gA0 (by decide))) rfl ?_
    refine j_gr (np := 39) rfl rfl hI gA0 (by decide) (n := 4) rfl rfl rfl ?_
    intro v5 e6 b7 z8
    have b7 : g v5 = 51 := Nat.eq_of_beq_eq_true b7
    refine w_t (np := 40) (l2 := [some (eR a0), some (eI (0)), none, none]) (s2 := [eI (0), eR v5]) rfl rfl rfl ?_
    refine w_t (np := 41) (l2 := [some (eR a0), some (eI (0)), none, none]) (s2 := [eI (0), eI (0), eR v5]) rfl rfl rfl ?_
    refine j_as (np := 42) rfl rfl hI b7 (by decide) (n := 4) rfl rfl (lo := -1) (hi := 64) (fun _ => rfl) (by decide) (by decide) (by decide) ?_
    intro m9 I10 W11
    have F12 : Fr l_14p_0 0 0 g μ m9 := F0.v W11 b7 rfl rfl
    exact K g m9 v1 v5 _ _ _ hI.re I10 F12 (Or.inl ⟨(fun z => by have h9 := e2; have h8 := pos_g hI b3 (by decide); omega), rfl, rfl⟩) b3 (W11.addr e2 b7 gA0 (by decide)) (W11.addr e6 b7 gA0 (by decide)) b7 W11.at
def l_14p_1 : List Nat := [12292, 13056]
theorem s_14p_1 {L : Nat} {ρ : Nat → Int} {rc : eQ} {d : Nat} {f : eFr} {F : List eFr} {μ : eM} {g : Nat → Nat} {a0 : Nat} (hI : SI g μ) (gA0 : g a0 = 48) (K : ∀ (g2 : Nat → Nat) (μ2 : eM) (t r : Nat) (o : Option eV) (c s : Nat), GE g g2 → SI g2 μ2 → Fr l_14p_1 c s g μ μ2 → (μ.1 a0 3 ≠ 0 ∧ c = 0 ∧ s = 0 ∨ μ.1 a0 3 = 0 ∧ c ≤ 30 ∧ s ≤ 11400) → g2 t = 42 → μ2.1 a0 3 = (t : Int) → μ2.1 a0 2 = (r : Int) → g2 r = 51 → μ2.1 r 1 = 0 → ex_q (dt_fg L ρ) rc (d + 3, (14, 42, [some (eR a0), some (eI (1)), o, none], []), f :: F, μ2)) : ex_q (dt_fg L ρ) rc (d + 3, (14, 0, [some (eR a0), some (eI (1)), none, none], []), f :: F, μ) := by
  have F0 : Fr l_14p_1 0 0 g μ μ := Fr.r
  refine w_t (np := 1) (l2 := [some (eR a0), some (eI (1)), none, none]) (s2 := [eR a0]) rfl (s_an rfl (pos_g hI gA0 (by decide))) rfl ?_
  refine j_gr (np := 4) rfl rfl hI gA0 (by decide) (n := 4) rfl rfl rfl ?_
  intro v1 e2 b3 z4
  rcases hor2 b3 with b3 | b3
  · have z4 : v1 = 0 := z4 b3
    subst z4
    refine v_nn_f (t1 := 35) rfl rfl rfl ?_
    show ex_q (dt_fg L ρ) rc (d + 3, (14, 7, [some (eR a0), some (eI (1)), none, none], []), f :: F, μ)
    refine j_no (np := 10) (n := 8) rfl rfl rfl hI ?_
    intro r5 m6 I7 F8 U9 O10
    have F11 : Fr l_14p_1 1 8 g μ m6 := F0.t F8 rfl
    have U9 : UC g m6 r5 2 8 [0, 0, 0, 0, 0, 0, 0, 0] := U9
    refine w_t (np := 11) (l2 := [some (eR a0), some (eI (1)), none, none]) (s2 := [eR r5, eR r5]) rfl rfl rfl ?_
    refine v_ci (np := 14) (as := []) (lv' := [some (eR r5)]) (rest := [eR r5]) rfl rfl rfl (Nat.ble_eq.mp rfl) rfl rfl rfl U9.2.1 rfl ?_
    refine w_t (np := 1) (l2 := [some (eR r5)]) (s2 := [eR r5]) rfl (s_an rfl (by have := U9.2.1; omega)) rfl ?_
    refine v_oi (np := 4) rfl rfl (by have := U9.2.1; omega) rfl ?_
    refine w_t (np := 5) (l2 := [some (eR r5)]) (s2 := [eR r5]) rfl (s_an rfl (by have := U9.2.1; omega)) rfl ?_
    refine w_t (np := 7) (l2 := [some (eR r5)]) (s2 := [eI (50), eR r5]) rfl rfl rfl ?_
    refine j_na (np := 9) (ρ := 3) (lo := 0) (hi := 1) rfl rfl I7 rfl (by decide) (by decide) (fun _ => rfl) (by decide) rfl ?_
    intro r12 g13 m14 I15 E16 b17 F18 U19 K20
    have F21 : Fr l_14p_1 2 58 g μ m14 := F11.t F18 rfl
    have U22 : UC g13 m14 r5 2 8 [0, 0, 0, 0, 0, 0, 0, 0] := U19 _ _ _ _ U9
    refine j_pu (np := 12) (w := ((r12 : Nat) : Int)) rfl rfl I15 U22 (Nat.ble_eq.mp rfl) rfl ?_
    intro m23 I24 F25 W26 U27
    have F28 : Fr l_14p_1 2 58 g μ m23 := F21.t3 E16 F25 rfl
    have U27 : UC g13 m23 r5 2 8 [((r12 : Nat) : Int), 0, 0, 0, 0, 0, 0, 0] := U27
    refine w_t (np := 13) (l2 := [some (eR r5)]) (s2 := [eR r5]) rfl (s_an rfl (by have := U27.2.1; omega)) rfl ?_
    refine w_t (np := 15) (l2 := [some (eR r5)]) (s2 := [eI (50), eR r5]) rfl rfl rfl ?_
    refine j_na (np := 17) (ρ := 4) (lo := -2147483648) (hi := 2147483647) rfl rfl I24 rfl (by decide) (by decide) (fun _ => rfl) (by decide) rfl ?_
    intro r29 g30 m31 I32 E33 b34 F35 U36 K37
    have F38 : Fr l_14p_1 3 108 g μ m31 := F28.t3 E16 F35 rfl
    have E39 := E16.t E33
    have U40 : UC g30 m31 r5 2 8 [((r12 : Nat) : Int), 0, 0, 0, 0, 0, 0, 0] := U36 _ _ _ _ U27
    refine j_pu (np := 20) (w := ((r29 : Nat) : Int)) rfl rfl I32 U40 (Nat.ble_eq.mp rfl) rfl ?_
    intro m41 I42 F43 W44 U45
    have F46 : Fr l_14p_1 3 108 g μ m41 := F38.t3 E39 F43 rfl
    have U45 : UC g30 m41 r5 2 8 [((r12 : Nat) : Int), ((r29 : Nat) : Int), 0, 0, 0, 0, 0, 0] := U45
    refine w_t (np := 21) (l2 := [some (eR r5)]) (s2 := [eR r5]) rfl (s_an rfl (by have := U45.2.1; omega)) rfl ?_
    refine w_t (np := 24) (l2 := [some (eR r5)]) (s2 := [eI (150), eR r5]) rfl rfl rfl ?_
    refine j_na (np := 26) (ρ := 5) (lo := 0) (hi := 511) rfl rfl I42 rfl (by decide) (by decide) (fun _ => rfl) (by decide) rfl ?_
    intro r47 g48 m49 I50 E51 b52 F53 U54 K55
    have F56 : Fr l_14p_1 4 258 g μ m49 := F46.t3 E39 F53 rfl
    have E57 := E39.t E51
    have U58 : UC g48 m49 r5 2 8 [((r12 : Nat) : Int), ((r29 : Nat) : Int), 0, 0, 0, 0, 0, 0] := U54 _ _ _ _ U45
    refine j_pu (np := 29) (w := ((r47 : Nat) : Int)) rfl rfl I50 U58 (Nat.ble_eq.mp rfl) rfl ?_
    intro m59 I60 F61 W62 U63
    have F64 : Fr l_14p_1 4 258 g μ m59 := F56.t3 E57 F61 rfl
    have U63 : UC g48 m59 r5 2 8 [((r12 : Nat) : Int), ((r29 : Nat) : Int), ((r47 : Nat) : Int), 0, 0, 0, 0, 0] := U63
    refine w_t (np := 30) (l2 := [some (eR r5)]) (s2 := [eR r5]) rfl (s_an rfl (by have := U63.2.1; omega)) rfl ?_
    refine w_t (np := 32) (l2 := [some (eR r5)]) (s2 := [eI (100), eR r5]) rfl rfl rfl ?_
    refine j_na (np := 34) (ρ := 6) (lo := 0) (hi := 9) rfl rfl I60 rfl (by decide) (by decide) (fun _ => rfl) (by decide) rfl ?_
    intro r65 g66 m67 I68 E69 b70 F71 U72 K73
    have F74 : Fr l_14p_1 5 358 g μ m67 := F64.t3 E57 F71 rfl
    have E75 := E57.t E69
    have U76 : UC g66 m67 r5 2 8 [((r12 : Nat) : Int), ((r29 : Nat) : Int), ((r47 : Nat) : Int), 0, 0, 0, 0, 0] := U72 _ _ _ _ U63
    refine j_pu (np := 37) (w := ((r65 : Nat) : Int)) rfl rfl I68 U76 (Nat.ble_eq.mp rfl) rfl ?_
    intro m77 I78 F79 W80 U81
    have F82 : Fr l_14p_1 5 358 g μ m77 := F74.t3 E75 F79 rfl
    have U81 : UC g66 m77 r5 2 8 [((r12 : Nat) : Int), ((r29 : Nat) : Int), ((r47 : Nat) : Int), ((r65 : Nat) : Int), 0, 0, 0, 0] := U81
    refine w_t (np := 38) (l2 := [some (eR r5)]) (s2 := [eR r5]) rfl (s_an rfl (by have := U81.2.1; omega)) rfl ?_
    refine j_no (np := 41) (n := 3) rfl rfl rfl I78 ?_
    intro r83 m84 I85 F86 U87 O88
    have F89 : Fr l_14p_1 6 361 g μ m84 := F82.t3 E75 F86 rfl
    have U90 := (O88 _ _ _ _ U81).1
    have U90n := (O88 _ _ _ _ U81).2
    have U87 : UC g66 m84 r83 3 3 [0, 0, 0] := U87
    refine w_t (np := 42) (l2 := [some (eR r5)]) (s2 := [eR r83, eR r83, eR r5]) rfl rfl rfl ?_
    refine v_ci (np := 45) (as := []) (lv' := [some (eR r83)]) (rest := [eR r83, eR r5]) rfl rfl rfl (Nat.ble_eq.mp rfl) rfl rfl rfl U87.2.1 rfl ?_
    refine w_t (np := 1) (l2 := [some (eR r83)]) (s2 := [eR r83]) rfl (s_an rfl (by have := U87.2.1; omega)) rfl ?_
    refine v_oi (np := 4) rfl rfl (by have := U87.2.1; omega) rfl ?_
    refine w_t (np := 5) (l2 := [some (eR r83)]) (s2 := [eR r83]) rfl (s_an rfl (by have := U87.2.1; omega)) rfl ?_
    refine w_t (np := 7) (l2 := [some (eR r83)]) (s2 := [eI (64), eR r83]) rfl rfl rfl ?_
    refine j_na (np := 9) (ρ := 13) (lo := -9223372036854775808) (hi := 9223372036854775807) rfl rfl I85 rfl (by decide) (by decide) (fun _ => rfl) (by decide) rfl ?_
    intro r91 g92 m93 I94 E95 b96 F97 U98 K99
    have F100 : Fr l_14p_1 7 425 g μ m93 := F89.t3 E75 F97 rfl
    have E101 := E75.t E95
    have U102 : UC g92 m93 r5 2 8 [((r12 : Nat) : Int), ((r29 : Nat) : Int), ((r47 : Nat) : Int), ((r65 : Nat) : Int), 0, 0, 0, 0] := U98 _ _ _ _ U90
    have U103 : UC g92 m93 r83 3 3 [0, 0, 0] := U98 _ _ _ _ U87
    refine j_pu (np := 12) (w := ((r91 : Nat) : Int)) rfl rfl I94 U103 (Nat.ble_eq.mp rfl) rfl ?_
    intro m104 I105 F106 W107 U108
    have F109 : Fr l_14p_1 7 425 g μ m104 := F100.t3 E101 F106 rfl
    have U108 : UC g92 m104 r83 3 3 [((r91 : Nat) : Int), 0, 0] := U108
    have U110 : UC g92 m104 r5 2 8 [((r12 : Nat) : Int), ((r29 : Nat) : Int), ((r47 : Nat) : Int), ((r65 : Nat) : Int), 0, 0, 0, 0] := U102.o W107 (fun z => U90n z.symm)
    refine w_t (np := 13) (l2 := [some (eR r83)]) (s2 := [eR r83]) rfl (s_an rfl (by have := U108.2.1; omega)) rfl ?_
    refine w_t (np := 16) (l2 := [some (eR r83)]) (s2 := [eI (128), eR r83]) rfl rfl rfl ?_
    refine j_na (np := 18) (ρ := 14) (lo := 0) (hi := 64) rfl rfl I105 rfl (by decide) (by decide) (fun _ => rfl) (by decide) rfl ?_
    intro r111 g112 m113 I114 E115 b116 F117 U118 K119
    have F120 : Fr l_14p_1 8 553 g μ m113 := F109.t3 E101 F117 rfl
    have E121 := E101.t E115
    have U122 : UC g112 m113 r5 2 8 [((r12 : Nat) : Int), ((r29 : Nat) : Int), ((r47 : Nat) : Int), ((r65 : Nat) : Int), 0, 0, 0, 0] := U118 _ _ _ _ U110
    have U123 : UC g112 m113 r83 3 3 [((r91 : Nat) : Int), 0, 0] := U118 _ _ _ _ U108
    refine j_pu (np := 21) (w := ((r111 : Nat) : Int)) rfl rfl I114 U123 (Nat.ble_eq.mp rfl) rfl ?_
    intro m124 I125 F126 W127 U128
    have F129 : Fr l_14p_1 8 553 g μ m124 := F120.t3 E121 F126 rfl
    have U128 : UC g112 m124 r83 3 3 [((r91 : Nat) : Int), ((r111 : Nat) : Int), 0] := U128
    have U130 : UC g112 m124 r5 2 8 [((r12 : Nat) : Int), ((r29 : Nat) : Int), ((r47 : Nat) : Int), ((r65 : Nat) : Int), 0, 0, 0, 0] := U122.o W127 (fun z => U90n z.symm)
    refine v_rv rfl rfl ?_
    show ex_q (dt_fg L ρ) rc (d + 2, (16, 45, [some (eR r5)], [eR r83, eR r5]), (14, 14, [some (eR a0), some (eI (1)), none, none], [eR r5]) :: f :: F, m124)
    obtain ⟨g131, I132, E133, b134, X135⟩ := U128.pb2 (ρ := 12) I125 (by decide) (by decide) rfl (fun k hk => match k, hk with
      | 0, _ => hO_r (b := r91) rfl (by rw [(E115.g b96 (by decide))]; rfl) (fun q => absurd q (by rw [(E115.g b96 (by decide))]; decide))
      | 1, _ => hO_r (b := r111) rfl (by rw [b116]; rfl) (fun q => absurd q (by rw [b116]; decide))
      | 2, _ => hO_i (x := 0) (lo := 0) (hi := 64) rfl (by decide)
      | k + 3, hk => absurd hk (by omega))
    have E136 := E121.t E133
    have U137 : UC g131 m124 r5 2 8 [((r12 : Nat) : Int), ((r29 : Nat) : Int), ((r47 : Nat) : Int), ((r65 : Nat) : Int), 0, 0, 0, 0] := U130.ge (a := r83) (ρ := 0) X135 U90n
    refine j_pu (np := 48) (w := ((r83 : Nat) : Int)) rfl rfl I132 U137 (Nat.ble_eq.mp rfl) rfl ?_
    intro m138 I139 F140 W141 U142
    have F143 : Fr l_14p_1 8 553 g μ m138 := F129.t3 E136 F140 rfl
    have U142 : UC g131 m138 r5 2 8 [((r12 : Nat) : Int), ((r29 : Nat) : Int), ((r47 : Nat) : Int), ((r65 : Nat) : Int), ((r83 : Nat) : Int), 0, 0, 0] := U142
    refine v_rv rfl rfl ?_
    show ex_q (dt_fg L ρ) rc (d + 3, (14, 14, [some (eR a0), some (eI (1)), none, none], [eR r5]), f :: F, m138)
    obtain ⟨g144, I145, E146, b147⟩ := U142.pb (ρ := 2) I139 (by decide) (by decide) rfl (fun k hk => match k, hk with
      | 0, _ => hO_r (b := r12) rfl (by rw [(E133.g (E115.g (E95.g (E69.g (E51.g (E33.g b17 (by decide)) (by decide)) (by decide)) (by decide)) (by decide)) (by decide))]; rfl) (fun q => absurd q (by rw [(E133.g (E115.g (E95.g (E69.g (E51.g (E33.g b17 (by decide)) (by decide)) (by decide)) (by decide)) (by decide)) (by decide))]; decide))
      | 1, _ => hO_r (b := r29) rfl (by rw [(E133.g (E115.g (E95.g (E69.g (E51.g b34 (by decide)) (by decide)) (by decide)) (by decide)) (by decide))]; rfl) (fun q => absurd q (by rw [(E133.g (E115.g (E95.g (E69.g (E51.g b34 (by decide)) (by decide)) (by decide)) (by decide)) (by decide))]; decide))
      | 2, _ => hO_r (b := r47) rfl (by rw [(E133.g (E115.g (E95.g (E69.g b52 (by decide)) (by decide)) (by decide)) (by decide))]; rfl) (fun q => absurd q (by rw [(E133.g (E115.g (E95.g (E69.g b52 (by decide)) (by decide)) (by decide)) (by decide))]; decide))
      | 3, _ => hO_r (b := r65) rfl (by rw [(E133.g (E115.g (E95.g b70 (by decide)) (by decide)) (by decide))]; rfl) (fun q => absurd q (by rw [(E133.g (E115.g (E95.g b70 (by decide)) (by decide)) (by decide))]; decide))
      | 4, _ => hO_r (b := r83) rfl (by rw [b134]; rfl) (fun q => absurd q (by rw [b134]; decide))
      | 5, _ => hO_i (x := 0) (lo := 0) (hi := 3) rfl (by decide)
      | 6, _ => hO_i (x := 0) (lo := 0) (hi := 5) rfl (by decide)
      | 7, _ => hO_i (x := 0) (lo := 0) (hi := 50) rfl (by decide)
      | k + 8, hk => absurd hk (by omega))
    have E149 := E136.t E146
    refine w_t (np := 15) (l2 := [some (eR a0), some (eI (1)), some (eR r5), none]) (s2 := []) rfl (s_sn (Nat.ble_eq.mp rfl) (pos_g I145 b147 (by decide)) rfl) rfl ?_
    refine w_t (np := 16) (l2 := [some (eR a0), some (eI (1)), some (eR r5), none]) (s2 := [eR a0]) rfl (s_an rfl (pos_g I145 (E146.g (E133.g (E115.g (E95.g (E69.g (E51.g (E33.g (E16.g gA0 (by decide)) (by decide)) (by decide)) (by decide)) (by decide)) (by decide)) (by decide)) (by decide)) (by decide))) rfl ?_
    refine j_no (np := 19) (n := 10) rfl rfl rfl I145 ?_
    intro r150 m151 I152 F153 U154 O155
    have F156 : Fr l_14p_1 9 563 g μ m151 := F143.t3 E149 F153 rfl
    have U154 : UC g144 m151 r150 0 10 [0, 0, 0, 0, 0, 0, 0, 0, 0, 0] := U154
    refine w_t (np := 20) (l2 := [some (eR a0), some (eI (1)), some (eR r5), none]) (s2 := [eR r150, eR r150, eR a0]) rfl rfl rfl ?_
    refine w_t (np := 21) (l2 := [some (eR a0), some (eI (1)), some (eR r5), none]) (s2 := [eR r5, eR r150, eR r150, eR a0]) rfl (s_an rfl (pos_g I152 b147 (by decide))) rfl ?_
    refine j_no (np := 24) (n := 15) rfl rfl rfl I152 ?_
    intro r157 m158 I159 F160 U161 O162
    have F163 : Fr l_14p_1 10 578 g μ m158 := F156.t3 E149 F160 rfl
    have U164 := (O162 _ _ _ _ U154).1
    have U164n := (O162 _ _ _ _ U154).2
    have U161 : UC g144 m158 r157 8 15 [0, 0, 0, 0, 0, 0, 0, 0, 0, 0, 0, 0, 0, 0, 0] := U161
    refine w_t (np := 25) (l2 := [some (eR a0), some (eI (1)), some (eR r5), none]) (s2 := [eR r157, eR r157, eR r5, eR r150, eR r150, eR a0]) rfl rfl rfl ?_
    refine w_t (np := 26) (l2 := [some (eR a0), some (eI (1)), some (eR r5), none]) (s2 := [eR r5, eR r157, eR r157, eR r5, eR r150, eR r150, eR a0]) rfl (s_an rfl (pos_g I159 b147 (by decide))) rfl ?_
    refine v_ci (np := 29) (as := [eR r5]) (lv' := [some (eR r157), some (eR r5)]) (rest := [eR r157, eR r5, eR r150, eR r150, eR a0]) rfl rfl rfl (Nat.ble_eq.mp rfl) rfl rfl rfl U161.2.1 rfl ?_
    refine w_t (np := 1) (l2 := [some (eR r157), some (eR r5)]) (s2 := [eR r157]) rfl (s_an rfl (by have := U161.2.1; omega)) rfl ?_
    refine v_oi (np := 4) rfl rfl (by have := U161.2.1; omega) rfl ?_
    refine w_t (np := 5) (l2 := [some (eR r157), some (eR r5)]) (s2 := [eR r157]) rfl (s_an rfl (by have := U161.2.1; omega)) rfl ?_
    refine w_t (np := 6) (l2 := [some (eR r157), some (eR r5)]) (s2 := [eR r5, eR r157]) rfl (s_an rfl (pos_g I159 b147 (by decide))) rfl ?_
    refine j_pu (np := 9) (w := ((r5 : Nat) : Int)) rfl rfl I159 U161 (Nat.ble_eq.mp rfl) rfl ?_
    intro m165 I166 F167 W168 U169
    have F170 : Fr l_14p_1 10 578 g μ m165 := F163.t3 E149 F167 rfl
    have U169 : UC g144 m165 r157 8 15 [0, 0, 0, 0, 0, 0, ((r5 : Nat) : Int), 0, 0, 0, 0, 0, 0, 0, 0] := U169
    have U171 : UC g144 m165 r150 0 10 [0, 0, 0, 0, 0, 0, 0, 0, 0, 0] := U164.o W168 (fun z => U164n z.symm)
    refine w_t (np := 10) (l2 := [some (eR r157), some (eR r5)]) (s2 := [eR r157]) rfl (s_an rfl (by have := U169.2.1; omega)) rfl ?_
    refine w_t (np := 13) (l2 := [some (eR r157), some (eR r5)]) (s2 := [eI (2670), eR r157]) rfl rfl rfl ?_
    refine j_na (np := 15) (ρ := 36) (lo := -1) (hi := 2669) rfl rfl I166 rfl (by decide) (by decide) (fun _ => rfl) (by decide) rfl ?_
    intro r172 g173 m174 I175 E176 b177 F178 U179 K180
    have F181 : Fr l_14p_1 11 3248 g μ m174 := F170.t3 E149 F178 rfl
    have E182 := E149.t E176
    have U183 : UC g173 m174 r150 0 10 [0, 0, 0, 0, 0, 0, 0, 0, 0, 0] := U179 _ _ _ _ U171
    have U184 : UC g173 m174 r157 8 15 [0, 0, 0, 0, 0, 0, ((r5 : Nat) : Int), 0, 0, 0, 0, 0, 0, 0, 0] := U179 _ _ _ _ U169
    refine j_pu (np := 18) (w := ((r172 : Nat) : Int)) rfl rfl I175 U184 (Nat.ble_eq.mp rfl) rfl ?_
    intro m185 I186 F187 W188 U189
    have F190 : Fr l_14p_1 11 3248 g μ m185 := F181.t3 E182 F187 rfl
    have U189 : UC g173 m185 r157 8 15 [((r172 : Nat) : Int), 0, 0, 0, 0, 0, ((r5 : Nat) : Int), 0, 0, 0, 0, 0, 0, 0, 0] := U189
    have U191 : UC g173 m185 r150 0 10 [0, 0, 0, 0, 0, 0, 0, 0, 0, 0] := U183.o W188 (fun z => U164n z.symm)
    refine w_t (np := 19) (l2 := [some (eR r157), some (eR r5)]) (s2 := [eR r157]) rfl (s_an rfl (by have := U189.2.1; omega)) rfl ?_
    refine w_t (np := 22) (l2 := [some (eR r157), some (eR r5)]) (s2 := [eI (512), eR r157]) rfl rfl rfl ?_
    refine j_na (np := 24) (ρ := 37) (lo := -1) (hi := 2669) rfl rfl I186 rfl (by decide) (by decide) (fun _ => rfl) (by decide) rfl ?_
    intro r192 g193 m194 I195 E196 b197 F198 U199 K200
    have F201 : Fr l_14p_1 12 3760 g μ m194 := F190.t3 E182 F198 rfl
    have E202 := E182.t E196
    have U203 : UC g193 m194 r150 0 10 [0, 0, 0, 0, 0, 0, 0, 0, 0, 0] := U199 _ _ _ _ U191
    have U204 : UC g193 m194 r157 8 15 [((r172 : Nat) : Int), 0, 0, 0, 0, 0, ((r5 : Nat) : Int), 0, 0, 0, 0, 0, 0, 0, 0] := U199 _ _ _ _ U189
    refine j_pu (np := 27) (w := ((r192 : Nat) : Int)) rfl rfl I195 U204 (Nat.ble_eq.mp rfl) rfl ?_
    intro m205 I206 F207 W208 U209
    have F210 : Fr l_14p_1 12 3760 g μ m205 := F201.t3 E202 F207 rfl
    have U209 : UC g193 m205 r157 8 15 [((r172 : Nat) : Int), ((r192 : Nat) : Int), 0, 0, 0, 0, ((r5 : Nat) : Int), 0, 0, 0, 0, 0, 0, 0, 0] := U209
    have U211 : UC g193 m205 r150 0 10 [0, 0, 0, 0, 0, 0, 0, 0, 0, 0] := U203.o W208 (fun z => U164n z.symm)
    refine w_t (np := 28) (l2 := [some (eR r157), some (eR r5)]) (s2 := [eR r157]) rfl (s_an rfl (by have := U209.2.1; omega)) rfl ?_
    refine w_t (np := 31) (l2 := [some (eR r157), some (eR r5)]) (s2 := [eI (2670), eR r157]) rfl rfl rfl ?_
    refine j_na (np := 33) (ρ := 38) (lo := -1) (hi := 2669) rfl rfl I206 rfl (by decide) (by decide) (fun _ => rfl) (by decide) rfl ?_
    intro r212 g213 m214 I215 E216 b217 F218 U219 K220
    have F221 : Fr l_14p_1 13 6430 g μ m214 := F210.t3 E202 F218 rfl
    have E222 := E202.t E216
    have U223 : UC g213 m214 r150 0 10 [0, 0, 0, 0, 0, 0, 0, 0, 0, 0] := U219 _ _ _ _ U211
    have U224 : UC g213 m214 r157 8 15 [((r172 : Nat) : Int), ((r192 : Nat) : Int), 0, 0, 0, 0, ((r5 : Nat) : Int), 0, 0, 0, 0, 0, 0, 0, 0] := U219 _ _ _ _ U209
    refine j_pu (np := 36) (w := ((r212 : Nat) : Int)) rfl rfl I215 U224 (Nat.ble_eq.mp rfl) rfl ?_
    intro m225 I226 F227 W228 U229
    have F230 : Fr l_14p_1 13 6430 g μ m225 := F221.t3 E222 F227 rfl
    have U229 : UC g213 m225 r157 8 15 [((r172 : Nat) : Int), ((r192 : Nat) : Int), ((r212 : Nat) : Int), 0, 0, 0, ((r5 : Nat) : Int), 0, 0, 0, 0, 0, 0, 0, 0] := U229
    have U231 : UC g213 m225 r150 0 10 [0, 0, 0, 0, 0, 0, 0, 0, 0, 0] := U223.o W228 (fun z => U164n z.symm)
    refine w_t (np := 37) (l2 := [some (eR r157), some (eR r5)]) (s2 := [eR r157]) rfl (s_an rfl (by have := U229.2.1; omega)) rfl ?_
    refine w_t (np := 40) (l2 := [some (eR r157), some (eR r5)]) (s2 := [eI (890), eR r157]) rfl rfl rfl ?_
    refine j_na (np := 42) (ρ := 39) (lo := -2147483648) (hi := 2147483647) rfl rfl I226 rfl (by decide) (by decide) (fun _ => rfl) (by decide) rfl ?_
    intro r232 g233 m234 I235 E236 b237 F238 U239 K240
    have F241 : Fr l_14p_1 14 7320 g μ m234 := F230.t3 E222 F238 rfl
    have E242 := E222.t E236
    have U243 : UC g233 m234 r150 0 10 [0, 0, 0, 0, 0, 0, 0, 0, 0, 0] := U239 _ _ _ _ U231
    have U244 : UC g233 m234 r157 8 15 [((r172 : Nat) : Int), ((r192 : Nat) : Int), ((r212 : Nat) : Int), 0, 0, 0, ((r5 : Nat) : Int), 0, 0, 0, 0, 0, 0, 0, 0] := U239 _ _ _ _ U229
    refine j_pu (np := 45) (w := ((r232 : Nat) : Int)) rfl rfl I235 U244 (Nat.ble_eq.mp rfl) rfl ?_
    intro m245 I246 F247 W248 U249
    have F250 : Fr l_14p_1 14 7320 g μ m245 := F241.t3 E242 F247 rfl
    have U249 : UC g233 m245 r157 8 15 [((r172 : Nat) : Int), ((r192 : Nat) : Int), ((r212 : Nat) : Int), ((r232 : Nat) : Int), 0, 0, ((r5 : Nat) : Int), 0, 0, 0, 0, 0, 0, 0, 0] := U249
    have U251 : UC g233 m245 r150 0 10 [0, 0, 0, 0, 0, 0, 0, 0, 0, 0] := U243.o W248 (fun z => U164n z.symm)
    refine w_t (np := 46) (l2 := [some (eR r157), some (eR r5)]) (s2 := [eR r157]) rfl (s_an rfl (by have := U249.2.1; omega)) rfl ?_
    refine w_t (np := 49) (l2 := [some (eR r157), some (eR r5)]) (s2 := [eI (890), eR r157]) rfl rfl rfl ?_
    refine j_na (np := 51) (ρ := 40) (lo := 0) (hi := 889) rfl rfl I246 rfl (by decide) (by decide) (fun _ => rfl) (by decide) rfl ?_
    intro r252 g253 m254 I255 E256 b257 F258 U259 K260
    have F261 : Fr l_14p_1 15 8210 g μ m254 := F250.t3 E242 F258 rfl
    have E262 := E242.t E256
    have U263 : UC g253 m254 r150 0 10 [0, 0, 0, 0, 0, 0, 0, 0, 0, 0] := U259 _ _ _ _ U251
    have U264 : UC g253 m254 r157 8 15 [((r172 : Nat) : Int), ((r192 : Nat) : Int), ((r212 : Nat) : Int), ((r232 : Nat) : Int), 0, 0, ((r5 : Nat) : Int), 0, 0, 0, 0, 0, 0, 0, 0] := U259 _ _ _ _ U249
    refine j_pu (np := 54) (w := ((r252 : Nat) : Int)) rfl rfl I255 U264 (Nat.ble_eq.mp rfl) rfl ?_
    intro m265 I266 F267 W268 U269
    have F270 : Fr l_14p_1 15 8210 g μ m265 := F261.t3 E262 F267 rfl
    have U269 : UC g253 m265 r157 8 15 [((r172 : Nat) : Int), ((r192 : Nat) : Int), ((r212 : Nat) : Int), ((r232 : Nat) : Int), ((r252 : Nat) : Int), 0, ((r5 : Nat) : Int), 0, 0, 0, 0, 0, 0, 0, 0] := U269
    have U271 : UC g253 m265 r150 0 10 [0, 0, 0, 0, 0, 0, 0, 0, 0, 0] := U263.o W268 (fun z => U164n z.symm)
    refine w_t (np := 55) (l2 := [some (eR r157), some (eR r5)]) (s2 := [eR r157]) rfl (s_an rfl (by have := U269.2.1; omega)) rfl ?_
    refine w_t (np := 58) (l2 := [some (eR r157), some (eR r5)]) (s2 := [eI (512), eR r157]) rfl rfl rfl ?_
    refine j_na (np := 60) (ρ := 41) (lo := -1) (hi := 511) rfl rfl I266 rfl (by decide) (by decide) (fun _ => rfl) (by decide) rfl ?_
    intro r272 g273 m274 I275 E276 b277 F278 U279 K280
    have F281 : Fr l_14p_1 16 8722 g μ m274 := F270.t3 E262 F278 rfl
    have E282 := E262.t E276
    have U283 : UC g273 m274 r150 0 10 [0, 0, 0, 0, 0, 0, 0, 0, 0, 0] := U279 _ _ _ _ U271
    have U284 : UC g273 m274 r157 8 15 [((r172 : Nat) : Int), ((r192 : Nat) : Int), ((r212 : Nat) : Int), ((r232 : Nat) : Int), ((r252 : Nat) : Int), 0, ((r5 : Nat) : Int), 0, 0, 0, 0, 0, 0, 0, 0] := U279 _ _ _ _ U269
    refine j_pu (np := 63) (w := ((r272 : Nat) : Int)) rfl rfl I275 U284 (Nat.ble_eq.mp rfl) rfl ?_
    intro m285 I286 F287 W288 U289
    have F290 : Fr l_14p_1 16 8722 g μ m285 := F281.t3 E282 F287 rfl
    have U289 : UC g273 m285 r157 8 15 [((r172 : Nat) : Int), ((r192 : Nat) : Int), ((r212 : Nat) : Int), ((r232 : Nat) : Int), ((r252 : Nat) : Int), ((r272 : Nat) : Int), ((r5 : Nat) : Int), 0, 0, 0, 0, 0, 0, 0, 0] := U289
    have U291 : UC g273 m285 r150 0 10 [0, 0, 0, 0, 0, 0, 0, 0, 0, 0] := U283.o W288 (fun z => U164n z.symm)
    refine v_rv rfl rfl ?_
    show ex_q (dt_fg L ρ) rc (d + 3, (14, 29, [some (eR a0), some (eI (1)), some (eR r5), none], [eR r157, eR r5, eR r150, eR r150, eR a0]), f :: F, m285)
    obtain ⟨g292, I293, E294, b295, X296⟩ := U289.pb2 (ρ := 35) I286 (by decide) (by decide) rfl (fun k hk => match k, hk with
      | 0, _ => hO_r (b := r172) rfl (by rw [(E276.g (E256.g (E236.g (E216.g (E196.g b177 (by decide)) (by decide)) (by decide)) (by decide)) (by decide))]; rfl) (fun q => absurd q (by rw [(E276.g (E256.g (E236.g (E216.g (E196.g b177 (by decide)) (by decide)) (by decide)) (by decide)) (by decide))]; decide))
      | 1, _ => hO_r (b := r192) rfl (by rw [(E276.g (E256.g (E236.g (E216.g b197 (by decide)) (by decide)) (by decide)) (by decide))]; rfl) (fun q => absurd q (by rw [(E276.g (E256.g (E236.g (E216.g b197 (by decide)) (by decide)) (by decide)) (by decide))]; decide))
      | 2, _ => hO_r (b := r212) rfl (by rw [(E276.g (E256.g (E236.g b217 (by decide)) (by decide)) (by decide))]; rfl) (fun q => absurd q (by rw [(E276.g (E256.g (E236.g b217 (by decide)) (by decide)) (by decide))]; decide))
      | 3, _ => hO_r (b := r232) rfl (by rw [(E276.g (E256.g b237 (by decide)) (by decide))]; rfl) (fun q => absurd q (by rw [(E276.g (E256.g b237 (by decide)) (by decide))]; decide))
      | 4, _ => hO_r (b := r252) rfl (by rw [(E276.g b257 (by decide))]; rfl) (fun q => absurd q (by rw [(E276.g b257 (by decide))]; decide))
      | 5, _ => hO_r (b := r272) rfl (by rw [b277]; rfl) (fun q => absurd q (by rw [b277]; decide))
      | 6, _ => hO_r (b := r5) rfl (by rw [(E276.g (E256.g (E236.g (E216.g (E196.g (E176.g b147 (by decide)) (by decide)) (by decide)) (by decide)) (by decide)) (by decide))]; rfl) (fun q => absurd q (by rw [(E276.g (E256.g (E236.g (E216.g (E196.g (E176.g b147 (by decide)) (by decide)) (by decide)) (by decide)) (by decide)) (by decide))]; decide))
      | 7, _ => hO_i (x := 0) (lo := -2147483648) (hi := 2147483647) rfl (by decide)
      | 8, _ => hO_i (x := 0) (lo := -2147483648) (hi := 2147483647) rfl (by decide)
      | 9, _ => hO_i (x := 0) (lo := -2147483648) (hi := 2147483647) rfl (by decide)
      | 10, _ => hO_i (x := 0) (lo := -2147483648) (hi := 2147483647) rfl (by decide)
      | 11, _ => hO_i (x := 0) (lo := -2147483648) (hi := 2147483647) rfl (by decide)
      | 12, _ => hO_i (x := 0) (lo := -2147483648) (hi := 2147483647) rfl (by decide)
      | 13, _ => hO_i (x := 0) (lo := -2147483648) (hi := 2147483647) rfl (by decide)
      | 14, _ => hO_i (x := 0) (lo := -2147483648) (hi := 2147483647) rfl (by decide)
      | k + 15, hk => absurd hk (by omega))
    have E297 := E282.t E294
    have U298 : UC g292 m285 r150 0 10 [0, 0, 0, 0, 0, 0, 0, 0, 0, 0] := U291.ge (a := r157) (ρ := 0) X296 U164n
    refine v_ci (np := 32) (as := [eR r5, eR r157]) (lv' := [some (eR r150), some (eR r5), some (eR r157)]) (rest := [eR r150, eR a0]) rfl rfl rfl (Nat.ble_eq.mp rfl) rfl rfl rfl U298.2.1 rfl ?_
    refine w_t (np := 1) (l2 := [some (eR r150), some (eR r5), some (eR r157)]) (s2 := [eR r150]) rfl (s_an rfl (by have := U298.2.1; omega)) rfl ?_
    refine v_oi (np := 4) rfl rfl (by have := U298.2.1; omega) rfl ?_
    refine w_t (np := 5) (l2 := [some (eR r150), some (eR r5), some (eR r157)]) (s2 := [eR r150]) rfl (s_an rfl (by have := U298.2.1; omega)) rfl ?_
    refine w_t (np := 6) (l2 := [some (eR r150), some (eR r5), some (eR r157)]) (s2 := [eR r5, eR r150]) rfl (s_an rfl (pos_g I293 (E294.g (E276.g (E256.g (E236.g (E216.g (E196.g (E176.g b147 (by decide)) (by decide)) (by decide)) (by decide)) (by decide)) (by decide)) (by decide)) (by decide))) rfl ?_
    refine j_pu (np := 9) (w := ((r5 : Nat) : Int)) rfl rfl I293 U298 (Nat.ble_eq.mp rfl) rfl ?_
    intro m299 I300 F301 W302 U303
    have F304 : Fr l_14p_1 16 8722 g μ m299 := F290.t3 E297 F301 rfl
    have U303 : UC g292 m299 r150 0 10 [0, 0, 0, 0, 0, ((r5 : Nat) : Int), 0, 0, 0, 0] := U303
    refine w_t (np := 10) (l2 := [some (eR r150), some (eR r5), some (eR r157)]) (s2 := [eR r150]) rfl (s_an rfl (by have := U303.2.1; omega)) rfl ?_
    refine w_t (np := 11) (l2 := [some (eR r150), some (eR r5), some (eR r157)]) (s2 := [eR r157, eR r150]) rfl (s_an rfl (pos_g I300 b295 (by decide))) rfl ?_
    refine j_pu (np := 14) (w := ((r157 : Nat) : Int)) rfl rfl I300 U303 (Nat.ble_eq.mp rfl) rfl ?_
    intro m305 I306 F307 W308 U309
    have F310 : Fr l_14p_1 16 8722 g μ m305 := F304.t3 E297 F307 rfl
    have U309 : UC g292 m305 r150 0 10 [0, 0, 0, 0, 0, ((r5 : Nat) : Int), ((r157 : Nat) : Int), 0, 0, 0] := U309
    refine w_t (np := 15) (l2 := [some (eR r150), some (eR r5), some (eR r157)]) (s2 := [eR r150]) rfl (s_an rfl (by have := U309.2.1; omega)) rfl ?_
    refine w_t (np := 18) (l2 := [some (eR r150), some (eR r5), some (eR r157)]) (s2 := [eI (512), eR r150]) rfl rfl rfl ?_
    refine j_na (np := 20) (ρ := 43) (lo := -2147483648) (hi := 2147483647) rfl rfl I306 rfl (by decide) (by decide) (fun _ => rfl) (by decide) rfl ?_
    intro r311 g312 m313 I314 E315 b316 F317 U318 K319
    have F320 : Fr l_14p_1 17 9234 g μ m313 := F310.t3 E297 F317 rfl
    have E321 := E297.t E315
    have U322 : UC g312 m313 r150 0 10 [0, 0, 0, 0, 0, ((r5 : Nat) : Int), ((r157 : Nat) : Int), 0, 0, 0] := U318 _ _ _ _ U309
    refine j_pu (np := 23) (w := ((r311 : Nat) : Int)) rfl rfl I314 U322 (Nat.ble_eq.mp rfl) rfl ?_
    intro m323 I324 F325 W326 U327
    have F328 : Fr l_14p_1 17 9234 g μ m323 := F320.t3 E321 F325 rfl
    have U327 : UC g312 m323 r150 0 10 [((r311 : Nat) : Int), 0, 0, 0, 0, ((r5 : Nat) : Int), ((r157 : Nat) : Int), 0, 0, 0] := U327
    refine w_t (np := 24) (l2 := [some (eR r150), some (eR r5), some (eR r157)]) (s2 := [eR r150]) rfl (s_an rfl (by have := U327.2.1; omega)) rfl ?_
    refine w_t (np := 27) (l2 := [some (eR r150), some (eR r5), some (eR r157)]) (s2 := [eI (512), eR r150]) rfl rfl rfl ?_
    refine j_na (np := 29) (ρ := 44) (lo := -9223372036854775808) (hi := 9223372036854775807) rfl rfl I324 rfl (by decide) (by decide) (fun _ => rfl) (by decide) rfl ?_
    intro r329 g330 m331 I332 E333 b334 F335 U336 K337
    have F338 : Fr l_14p_1 18 9746 g μ m331 := F328.t3 E321 F335 rfl
    have E339 := E321.t E333
    have U340 : UC g330 m331 r150 0 10 [((r311 : Nat) : Int), 0, 0, 0, 0, ((r5 : Nat) : Int), ((r157 : Nat) : Int), 0, 0, 0] := U336 _ _ _ _ U327
    refine j_pu (np := 32) (w := ((r329 : Nat) : Int)) rfl rfl I332 U340 (Nat.ble_eq.mp rfl) rfl ?_
    intro m341 I342 F343 W344 U345
    have F346 : Fr l_14p_1 18 9746 g μ m341 := F338.t3 E339 F343 rfl
    have U345 : UC g330 m341 r150 0 10 [((r311 : Nat) : Int), ((r329 : Nat) : Int), 0, 0, 0, ((r5 : Nat) : Int), ((r157 : Nat) : Int), 0, 0, 0] := U345
    refine w_t (np := 33) (l2 := [some (eR r150), some (eR r5), some (eR r157)]) (s2 := [eR r150]) rfl (s_an rfl (by have := U345.2.1; omega)) rfl ?_
    refine w_t (np := 36) (l2 := [some (eR r150), some (eR r5), some (eR r157)]) (s2 := [eI (512), eR r150]) rfl rfl rfl ?_
    refine j_na (np := 38) (ρ := 45) (lo := 0) (hi := 1) rfl rfl I342 rfl (by decide) (by decide) (fun _ => rfl) (by decide) rfl ?_
    intro r347 g348 m349 I350 E351 b352 F353 U354 K355
    have F356 : Fr l_14p_1 19 10258 g μ m349 := F346.t3 E339 F353 rfl
    have E357 := E339.t E351
    have U358 : UC g348 m349 r150 0 10 [((r311 : Nat) : Int), ((r329 : Nat) : Int), 0, 0, 0, ((r5 : Nat) : Int), ((r157 : Nat) : Int), 0, 0, 0] := U354 _ _ _ _ U345
    refine j_pu (np := 41) (w := ((r347 : Nat) : Int)) rfl rfl I350 U358 (Nat.ble_eq.mp rfl) rfl ?_
    intro m359 I360 F361 W362 U363
    have F364 : Fr l_14p_1 19 10258 g μ m359 := F356.t3 E357 F361 rfl
    have U363 : UC g348 m359 r150 0 10 [((r311 : Nat) : Int), ((r329 : Nat) : Int), ((r347 : Nat) : Int), 0, 0, ((r5 : Nat) : Int), ((r157 : Nat) : Int), 0, 0, 0] := U363
    refine w_t (np := 42) (l2 := [some (eR r150), some (eR r5), some (eR r157)]) (s2 := [eR r150]) rfl (s_an rfl (by have := U363.2.1; omega)) rfl ?_
    refine w_t (np := 45) (l2 := [some (eR r150), some (eR r5), some (eR r157)]) (s2 := [eI (512), eR r150]) rfl rfl rfl ?_
    refine j_na (np := 47) (ρ := 46) (lo := -2147483648) (hi := 2147483647) rfl rfl I360 rfl (by decide) (by decide) (fun _ => rfl) (by decide) rfl ?_
    intro r365 g366 m367 I368 E369 b370 F371 U372 K373
    have F374 : Fr l_14p_1 20 10770 g μ m367 := F364.t3 E357 F371 rfl
    have E375 := E357.t E369
    have U376 : UC g366 m367 r150 0 10 [((r311 : Nat) : Int), ((r329 : Nat) : Int), ((r347 : Nat) : Int), 0, 0, ((r5 : Nat) : Int), ((r157 : Nat) : Int), 0, 0, 0] := U372 _ _ _ _ U363
    refine j_pu (np := 50) (w := ((r365 : Nat) : Int)) rfl rfl I368 U376 (Nat.ble_eq.mp rfl) rfl ?_
    intro m377 I378 F379 W380 U381
    have F382 : Fr l_14p_1 20 10770 g μ m377 := F374.t3 E375 F379 rfl
    have U381 : UC g366 m377 r150 0 10 [((r311 : Nat) : Int), ((r329 : Nat) : Int), ((r347 : Nat) : Int), ((r365 : Nat) : Int), 0, ((r5 : Nat) : Int), ((r157 : Nat) : Int), 0, 0, 0] := U381
    refine w_t (np := 51) (l2 := [some (eR r150), some (eR r5), some (eR r157)]) (s2 := [eR r150]) rfl (s_an rfl (by have := U381.2.1; omega)) rfl ?_
    refine w_t (np := 53) (l2 := [some (eR r150), some (eR r5), some (eR r157)]) (s2 := [eI (64), eR r150]) rfl rfl rfl ?_
    refine j_na (np := 55) (ρ := 47) (lo := -2147483648) (hi := 2147483647) rfl rfl I378 rfl (by decide) (by decide) (fun _ => rfl) (by decide) rfl ?_
    intro r383 g384 m385 I386 E387 b388 F389 U390 K391
    have F392 : Fr l_14p_1 21 10834 g μ m385 := F382.t3 E375 F389 rfl
    have E393 := E375.t E387
    have U394 : UC g384 m385 r150 0 10 [((r311 : Nat) : Int), ((r329 : Nat) : Int), ((r347 : Nat) : Int), ((r365 : Nat) : Int), 0, ((r5 : Nat) : Int), ((r157 : Nat) : Int), 0, 0, 0] := U390 _ _ _ _ U381
    refine j_pu (np := 58) (w := ((r383 : Nat) : Int)) rfl rfl I386 U394 (Nat.ble_eq.mp rfl) rfl ?_
    intro m395 I396 F397 W398 U399
    have F400 : Fr l_14p_1 21 10834 g μ m395 := F392.t3 E393 F397 rfl
    have U399 : UC g384 m395 r150 0 10 [((r311 : Nat) : Int), ((r329 : Nat) : Int), ((r347 : Nat) : Int), ((r365 : Nat) : Int), ((r383 : Nat) : Int), ((r5 : Nat) : Int), ((r157 : Nat) : Int), 0, 0, 0] := U399
    refine v_rv rfl rfl ?_
    show ex_q (dt_fg L ρ) rc (d + 3, (14, 32, [some (eR a0), some (eI (1)), some (eR r5), none], [eR r150, eR a0]), f :: F, m395)
    obtain ⟨g401, I402, E403, b404⟩ := U399.pb (ρ := 42) I396 (by decide) (by decide) rfl (fun k hk => match k, hk with
      | 0, _ => hO_r (b := r311) rfl (by rw [(E387.g (E369.g (E351.g (E333.g b316 (by decide)) (by decide)) (by decide)) (by decide))]; rfl) (fun q => absurd q (by rw [(E387.g (E369.g (E351.g (E333.g b316 (by decide)) (by decide)) (by decide)) (by decide))]; decide))
      | 1, _ => hO_r (b := r329) rfl (by rw [(E387.g (E369.g (E351.g b334 (by decide)) (by decide)) (by decide))]; rfl) (fun q => absurd q (by rw [(E387.g (E369.g (E351.g b334 (by decide)) (by decide)) (by decide))]; decide))
      | 2, _ => hO_r (b := r347) rfl (by rw [(E387.g (E369.g b352 (by decide)) (by decide))]; rfl) (fun q => absurd q (by rw [(E387.g (E369.g b352 (by decide)) (by decide))]; decide))
      | 3, _ => hO_r (b := r365) rfl (by rw [(E387.g b370 (by decide))]; rfl) (fun q => absurd q (by rw [(E387.g b370 (by decide))]; decide))
      | 4, _ => hO_r (b := r383) rfl (by rw [b388]; rfl) (fun q => absurd q (by rw [b388]; decide))
      | 5, _ => hO_r (b := r5) rfl (by rw [(E387.g (E369.g (E351.g (E333.g (E315.g (E294.g (E276.g (E256.g (E236.g (E216.g (E196.g (E176.g b147 (by decide)) (by decide)) (by decide)) (by decide)) (by decide)) (by decide)) (by decide)) (by decide)) (by decide)) (by decide)) (by decide)) (by decide))]; rfl) (fun q => absurd q (by rw [(E387.g (E369.g (E351.g (E333.g (E315.g (E294.g (E276.g (E256.g (E236.g (E216.g (E196.g (E176.g b147 (by decide)) (by decide)) (by decide)) (by decide)) (by decide)) (by decide)) (by decide)) (by decide)) (by decide)) (by decide)) (by decide)) (by decide))]; decide))
      | 6, _ => hO_r (b := r157) rfl (by rw [(E387.g (E369.g (E351.g (E333.g (E315.g b295 (by decide)) (by decide)) (by decide)) (by decide)) (by decide))]; rfl) (fun q => absurd q (by rw [(E387.g (E369.g (E351.g (E333.g (E315.g b295 (by decide)) (by decide)) (by decide)) (by decide)) (by decide))]; decide))
      | 7, _ => hO_i (x := 0) (lo := 0) (hi := 512) rfl (by decide)
      | 8, _ => hO_i (x := 0) (lo := -2147483648) (hi := 2147483647) rfl (by decide)
      | 9, _ => hO_i (x := 0) (lo := 0) (hi := 64) rfl (by decide)
      | k + 10, hk => absurd hk (by omega))
    have E406 := E393.t E403
    refine j_pf (np := 35) (w := ((r150 : Nat) : Int)) rfl rfl I402 (E403.g (E387.g (E369.g (E351.g (E333.g (E315.g (E294.g (E276.g (E256.g (E236.g (E216.g (E196.g (E176.g (E146.g (E133.g (E115.g (E95.g (E69.g (E51.g (E33.g (E16.g gA0 (by decide)) (by decide)) (by decide)) (by decide)) (by decide)) (by decide)) (by decide)) (by decide)) (by decide)) (by decide)) (by decide)) (by decide)) (by decide)) (by decide)) (by decide)) (by decide)) (by decide)) (by decide)) (by decide)) (by decide)) (by decide)) (by decide) (n := 4) rfl rfl (hO_r rfl (by rw [b404]; rfl) (fun q => absurd q (by rw [b404]; decide))) ?_
    intro m407 I408 W409
    have F410 : Fr l_14p_1 21 10834 g μ m407 := F400.w3 E406 W409 (E403.g (E387.g (E369.g (E351.g (E333.g (E315.g (E294.g (E276.g (E256.g (E236.g (E216.g (E196.g (E176.g (E146.g (E133.g (E115.g (E95.g (E69.g (E51.g (E33.g (E16.g gA0 (by decide)) (by decide)) (by decide)) (by decide)) (by decide)) (by decide)) (by decide)) (by decide)) (by decide)) (by decide)) (by decide)) (by decide)) (by decide)) (by decide)) (by decide)) (by decide)) (by decide)) (by decide)) (by decide)) (by decide)) (by decide)) rfl
    refine w_t (np := 36) (l2 := [some (eR a0), some (eI (1)), some (eR r5), none]) (s2 := [eR a0]) rfl (s_an rfl (pos_g I408 (E403.g (E387.g (E369.g (E351.g (E333.g (E315.g (E294.g (E276.g (E256.g (E236.g (E216.g (E196.g (E176.g (E146.g (E133.g (E115.g (E95.g (E69.g (E51.g (E33.g (E16.g gA0 (by decide)) (by decide)) (by decide)) (by decide)) (by decide)) (by decide)) (by decide)) (by decide)) (by decide)) (by decide)) (by decide)) (by decide)) (by decide)) (by decide)) (by decide)) (by decide)) (by decide)) (by decide)) (by decide)) (by decide)) (by decide)) (by decide))) rfl ?_
    refine j_gr (np := 39) rfl rfl I408 (E403.g (E387.g (E369.g (E351.g (E333.g (E315.g (E294.g (E276.g (E256.g (E236.g (E216.g (E196.g (E176.g (E146.g (E133.g (E115.g (E95.g (E69.g (E51.g (E33.g (E16.g gA0 (by decide)) (by decide)) (by decide)) (by decide)) (by decide)) (by decide)) (by decide)) (by decide)) (by decide)) (by decide)) (by decide)) (by decide)) (by decide)) (by decide)) (by decide)) (by decide)) (by decide)) (by decide)) (by decide)) (by decide)) (by decide)) (by decide) (n := 4) rfl rfl rfl ?_
    intro v411 e412 b413 z414
    have b413 : g401 v411 = 51 := Nat.eq_of_beq_eq_true b413
    refine w_t (np := 40) (l2 := [some (eR a0), some (eI (1)), some (eR r5), none]) (s2 := [eI (1), eR v411]) rfl rfl rfl ?_
    refine w_t (np := 41) (l2 := [some (eR a0), some (eI (1)), some (eR r5), none]) (s2 := [eI (0), eI (1), eR v411]) rfl rfl rfl ?_
    refine j_as (np := 42) rfl rfl I408 b413 (by decide) (n := 4) rfl rfl (lo := -1) (hi := 64) (fun _ => rfl) (by decide) (by decide) (by decide) ?_
    intro m415 I416 W417
    have F418 : Fr l_14p_1 21 10834 g μ m415 := F410.v3 E406 W417 b413 rfl rfl
    exact K g401 m415 r150 v411 _ _ _ E406 I416 F418 (Or.inr ⟨e2, by decide, by decide⟩) b404 (W417.addr W409.at b413 (E403.g (E387.g (E369.g (E351.g (E333.g (E315.g (E294.g (E276.g (E256.g (E236.g (E216.g (E196.g (E176.g (E146.g (E133.g (E115.g (E95.g (E69.g (E51.g (E33.g (E16.g gA0 (by decide)) (by decide)) (by decide)) (by decide)) (by decide)) (by decide)) (by decide)) (by decide)) (by decide)) (by decide)) (by decide)) (by decide)) (by decide)) (by decide)) (by decide)) (by decide)) (by decide)) (by decide)) (by decide)) (by decide)) (by decide)) (by decide)) (W417.addr e412 b413 (E403.g (E387.g (E369.g (E351.g (E333.g (E315.g (E294.g (E276.g (E256.g (E236.g (E216.g (E196.g (E176.g (E146.g (E133.g (E115.g (E95.g (E69.g (E51.g (E33.g (E16.g gA0 (by decide)) (by decide)) (by decide)) (by decide)) (by decide)) (by decide)) (by decide)) (by decide)) (by decide)) (by decide)) (by decide)) (by decide)) (by decide)) (by decide)) (by decide)) (by decide)) (by decide)) (by decide)) (by decide)) (by decide)) (by decide)) (by decide)) b413 W417.at
  · refine v_nn_t (t1 := 35) rfl rfl (beq_g hI b3 (by decide)) ?_
    refine w_t (np := 36) (l2 := [some (eR a0), some (eI (1)), none, none]) (s2 := [eR a0]) rfl (s_an rfl (pos_g hI gA0 (by decide))) rfl ?_
    refine j_gr (np := 39) rfl rfl hI gA0 (by decide) (n := 4) rfl rfl rfl ?_
    intro v5 e6 b7 z8
    have b7 : g v5 = 51 := Nat.eq_of_beq_eq_true b7
    refine w_t (np := 40) (l2 := [some (eR a0), some (eI (1)), none, none]) (s2 := [eI (1), eR v5]) rfl rfl rfl ?_
    refine w_t (np := 41) (l2 := [some (eR a0), some (eI (1)), none, none]) (s2 := [eI (0), eI (1), eR v5]) rfl rfl rfl ?_
    refine j_as (np := 42) rfl rfl hI b7 (by decide) (n := 4) rfl rfl (lo := -1) (hi := 64) (fun _ => rfl) (by decide) (by decide) (by decide) ?_
    intro m9 I10 W11
    have F12 : Fr l_14p_1 0 0 g μ m9 := F0.v W11 b7 rfl rfl
    exact K g m9 v1 v5 _ _ _ hI.re I10 F12 (Or.inl ⟨(fun z => by have h9 := e2; have h8 := pos_g hI b3 (by decide); omega), rfl, rfl⟩) b3 (W11.addr e2 b7 gA0 (by decide)) (W11.addr e6 b7 gA0 (by decide)) b7 W11.at
def l_14p_2 : List Nat := [12292, 13056]
theorem s_14p_2 {L : Nat} {ρ : Nat → Int} {rc : eQ} {d : Nat} {f : eFr} {F : List eFr} {μ : eM} {g : Nat → Nat} {a0 : Nat} (hI : SI g μ) (gA0 : g a0 = 48) (K : ∀ (g2 : Nat → Nat) (μ2 : eM) (t r : Nat) (o : Option eV) (c s : Nat), GE g g2 → SI g2 μ2 → Fr l_14p_2 c s g μ μ2 → (μ.1 a0 3 ≠ 0 ∧ c = 0 ∧ s = 0 ∨ μ.1 a0 3 = 0 ∧ c ≤ 30 ∧ s ≤ 11400) → g2 t = 42 → μ2.1 a0 3 = (t : Int) → μ2.1 a0 2 = (r : Int) → g2 r = 51 → μ2.1 r 2 = 0 → ex_q (dt_fg L ρ) rc (d + 3, (14, 42, [some (eR a0), some (eI (2)), o, none], []), f :: F, μ2)) : ex_q (dt_fg L ρ) rc (d + 3, (14, 0, [some (eR a0), some (eI (2)), none, none], []), f :: F, μ) := by
  have F0 : Fr l_14p_2 0 0 g μ μ := Fr.r
  refine w_t (np := 1) (l2 := [some (eR a0), some (eI (2)), none, none]) (s2 := [eR a0]) rfl (s_an rfl (pos_g hI gA0 (by decide))) rfl ?_
  refine j_gr (np := 4) rfl rfl hI gA0 (by decide) (n := 4) rfl rfl rfl ?_
  intro v1 e2 b3 z4
  rcases hor2 b3 with b3 | b3
  · have z4 : v1 = 0 := z4 b3
    subst z4
    refine v_nn_f (t1 := 35) rfl rfl rfl ?_
    show ex_q (dt_fg L ρ) rc (d + 3, (14, 7, [some (eR a0), some (eI (2)), none, none], []), f :: F, μ)
    refine j_no (np := 10) (n := 8) rfl rfl rfl hI ?_
    intro r5 m6 I7 F8 U9 O10
    have F11 : Fr l_14p_2 1 8 g μ m6 := F0.t F8 rfl
    have U9 : UC g m6 r5 2 8 [0, 0, 0, 0, 0, 0, 0, 0] := U9
    refine w_t (np := 11) (l2 := [some (eR a0), some (eI (2)), none, none]) (s2 := [eR r5, eR r5]) rfl rfl rfl ?_
    refine v_ci (np := 14) (as := []) (lv' := [some (eR r5)]) (rest := [eR r5]) rfl rfl rfl (Nat.ble_eq.mp rfl) rfl rfl rfl U9.2.1 rfl ?_
    refine w_t (np := 1) (l2 := [some (eR r5)]) (s2 := [eR r5]) rfl (s_an rfl (by have := U9.2.1; omega)) rfl ?_
    refine v_oi (np := 4) rfl rfl (by have := U9.2.1; omega) rfl ?_
    refine w_t (np := 5) (l2 := [some (eR r5)]) (s2 := [eR r5]) rfl (s_an rfl (by have := U9.2.1; omega)) rfl ?_
    refine w_t (np := 7) (l2 := [some (eR r5)]) (s2 := [eI (50), eR r5]) rfl rfl rfl ?_
    refine j_na (np := 9) (ρ := 3) (lo := 0) (hi := 1) rfl rfl I7 rfl (by decide) (by decide) (fun _ => rfl) (by decide) rfl ?_
    intro r12 g13 m14 I15 E16 b17 F18 U19 K20
    have F21 : Fr l_14p_2 2 58 g μ m14 := F11.t F18 rfl
    have U22 : UC g13 m14 r5 2 8 [0, 0, 0, 0, 0, 0, 0, 0] := U19 _ _ _ _ U9
    refine j_pu (np := 12) (w := ((r12 : Nat) : Int)) rfl rfl I15 U22 (Nat.ble_eq.mp rfl) rfl ?_
    intro m23 I24 F25 W26 U27
    have F28 : Fr l_14p_2 2 58 g μ m23 := F21.t3 E16 F25 rfl
    have U27 : UC g13 m23 r5 2 8 [((r12 : Nat) : Int), 0, 0, 0, 0, 0, 0, 0] := U27
    refine w_t (np := 13) (l2 := [some (eR r5)]) (s2 := [eR r5]) rfl (s_an rfl (by have := U27.2.1; omega)) rfl ?_
    refine w_t (np := 15) (l2 := [some (eR r5)]) (s2 := [eI (50), eR r5]) rfl rfl rfl ?_
    refine j_na (np := 17) (ρ := 4) (lo := -2147483648) (hi := 2147483647) rfl rfl I24 rfl (by decide) (by decide) (fun _ => rfl) (by decide) rfl ?_
    intro r29 g30 m31 I32 E33 b34 F35 U36 K37
    have F38 : Fr l_14p_2 3 108 g μ m31 := F28.t3 E16 F35 rfl
    have E39 := E16.t E33
    have U40 : UC g30 m31 r5 2 8 [((r12 : Nat) : Int), 0, 0, 0, 0, 0, 0, 0] := U36 _ _ _ _ U27
    refine j_pu (np := 20) (w := ((r29 : Nat) : Int)) rfl rfl I32 U40 (Nat.ble_eq.mp rfl) rfl ?_
    intro m41 I42 F43 W44 U45
    have F46 : Fr l_14p_2 3 108 g μ m41 := F38.t3 E39 F43 rfl
    have U45 : UC g30 m41 r5 2 8 [((r12 : Nat) : Int), ((r29 : Nat) : Int), 0, 0, 0, 0, 0, 0] := U45
    refine w_t (np := 21) (l2 := [some (eR r5)]) (s2 := [eR r5]) rfl (s_an rfl (by have := U45.2.1; omega)) rfl ?_
    refine w_t (np := 24) (l2 := [some (eR r5)]) (s2 := [eI (150), eR r5]) rfl rfl rfl ?_
    refine j_na (np := 26) (ρ := 5) (lo := 0) (hi := 511) rfl rfl I42 rfl (by decide) (by decide) (fun _ => rfl) (by decide) rfl ?_
    intro r47 g48 m49 I50 E51 b52 F53 U54 K55
    have F56 : Fr l_14p_2 4 258 g μ m49 := F46.t3 E39 F53 rfl
    have E57 := E39.t E51
    have U58 : UC g48 m49 r5 2 8 [((r12 : Nat) : Int), ((r29 : Nat) : Int), 0, 0, 0, 0, 0, 0] := U54 _ _ _ _ U45
    refine j_pu (np := 29) (w := ((r47 : Nat) : Int)) rfl rfl I50 U58 (Nat.ble_eq.mp rfl) rfl ?_
    intro m59 I60 F61 W62 U63
    have F64 : Fr l_14p_2 4 258 g μ m59 := F56.t3 E57 F61 rfl
    have U63 : UC g48 m59 r5 2 8 [((r12 : Nat) : Int), ((r29 : Nat) : Int), ((r47 : Nat) : Int), 0, 0, 0, 0, 0] := U63
    refine w_t (np := 30) (l2 := [some (eR r5)]) (s2 := [eR r5]) rfl (s_an rfl (by have := U63.2.1; omega)) rfl ?_
    refine w_t (np := 32) (l2 := [some (eR r5)]) (s2 := [eI (100), eR r5]) rfl rfl rfl ?_
    refine j_na (np := 34) (ρ := 6) (lo := 0) (hi := 9) rfl rfl I60 rfl (by decide) (by decide) (fun _ => rfl) (by decide) rfl ?_
    intro r65 g66 m67 I68 E69 b70 F71 U72 K73
    have F74 : Fr l_14p_2 5 358 g μ m67 := F64.t3 E57 F71 rfl
    have E75 := E57.t E69
    have U76 : UC g66 m67 r5 2 8 [((r12 : Nat) : Int), ((r29 : Nat) : Int), ((r47 : Nat) : Int), 0, 0, 0, 0, 0] := U72 _ _ _ _ U63
    refine j_pu (np := 37) (w := ((r65 : Nat) : Int)) rfl rfl I68 U76 (Nat.ble_eq.mp rfl) rfl ?_
    intro m77 I78 F79 W80 U81
    have F82 : Fr l_14p_2 5 358 g μ m77 := F74.t3 E75 F79 rfl
    have U81 : UC g66 m77 r5 2 8 [((r12 : Nat) : Int), ((r29 : Nat) : Int), ((r47 : Nat) : Int), ((r65 : Nat) : Int), 0, 0, 0, 0] := U81
    refine w_t (np := 38) (l2 := [some (eR r5)]) (s2 := [eR r5]) rfl (s_an rfl (by have := U81.2.1; omega)) rfl ?_
    refine j_no (np := 41) (n := 3) rfl rfl rfl I78 ?_
    intro r83 m84 I85 F86 U87 O88
    have F89 : Fr l_14p_2 6 361 g μ m84 := F82.t3 E75 F86 rfl
    have U90 := (O88 _ _ _ _ U81).1
    have U90n := (O88 _ _ _ _ U81).2
    have U87 : UC g66 m84 r83 3 3 [0, 0, 0] := U87
    refine w_t (np := 42) (l2 := [some (eR r5)]) (s2 := [eR r83, eR r83, eR r5]) rfl rfl rfl ?_
    refine v_ci (np := 45) (as := []) (lv' := [some (eR r83)]) (rest := [eR r83, eR r5]) rfl rfl rfl (Nat.ble_eq.mp rfl) rfl rfl rfl U87.2.1 rfl ?_
    refine w_t (np := 1) (l2 := [some (eR r83)]) (s2 := [eR r83]) rfl (s_an rfl (by have := U87.2.1; omega)) rfl ?_
    refine v_oi (np := 4) rfl rfl (by have := U87.2.1; omega) rfl ?_
    refine w_t (np := 5) (l2 := [some (eR r83)]) (s2 := [eR r83]) rfl (s_an rfl (by have := U87.2.1; omega)) rfl ?_
    refine w_t (np := 7) (l2 := [some (eR r83)]) (s2 := [eI (64), eR r83]) rfl rfl rfl ?_
    refine j_na (np := 9) (ρ := 13) (lo := -9223372036854775808) (hi := 9223372036854775807) rfl rfl I85 rfl (by decide) (by decide) (fun _ => rfl) (by decide) rfl ?_
    intro r91 g92 m93 I94 E95 b96 F97 U98 K99
    have F100 : Fr l_14p_2 7 425 g μ m93 := F89.t3 E75 F97 rfl
    have E101 := E75.t E95
    have U102 : UC g92 m93 r5 2 8 [((r12 : Nat) : Int), ((r29 : Nat) : Int), ((r47 : Nat) : Int), ((r65 : Nat) : Int), 0, 0, 0, 0] := U98 _ _ _ _ U90
    have U103 : UC g92 m93 r83 3 3 [0, 0, 0] := U98 _ _ _ _ U87
    refine j_pu (np := 12) (w := ((r91 : Nat) : Int)) rfl rfl I94 U103 (Nat.ble_eq.mp rfl) rfl ?_
    intro m104 I105 F106 W107 U108
    have F109 : Fr l_14p_2 7 425 g μ m104 := F100.t3 E101 F106 rfl
    have U108 : UC g92 m104 r83 3 3 [((r91 : Nat) : Int), 0, 0] := U108
    have U110 : UC g92 m104 r5 2 8 [((r12 : Nat) : Int), ((r29 : Nat) : Int), ((r47 : Nat) : Int), ((r65 : Nat) : Int), 0, 0, 0, 0] := U102.o W107 (fun z => U90n z.symm)
    refine w_t (np := 13) (l2 := [some (eR r83)]) (s2 := [eR r83]) rfl (s_an rfl (by have := U108.2.1; omega)) rfl ?_
    refine w_t (np := 16) (l2 := [some (eR r83)]) (s2 := [eI (128), eR r83]) rfl rfl rfl ?_
    refine j_na (np := 18) (ρ := 14) (lo := 0) (hi := 64) rfl rfl I105 rfl (by decide) (by decide) (fun _ => rfl) (by decide) rfl ?_
    intro r111 g112 m113 I114 E115 b116 F117 U118 K119
    have F120 : Fr l_14p_2 8 553 g μ m113 := F109.t3 E101 F117 rfl
    have E121 := E101.t E115
    have U122 : UC g112 m113 r5 2 8 [((r12 : Nat) : Int), ((r29 : Nat) : Int), ((r47 : Nat) : Int), ((r65 : Nat) : Int), 0, 0, 0, 0] := U118 _ _ _ _ U110
    have U123 : UC g112 m113 r83 3 3 [((r91 : Nat) : Int), 0, 0] := U118 _ _ _ _ U108
    refine j_pu (np := 21) (w := ((r111 : Nat) : Int)) rfl rfl I114 U123 (Nat.ble_eq.mp rfl) rfl ?_
    intro m124 I125 F126 W127 U128
    have F129 : Fr l_14p_2 8 553 g μ m124 := F120.t3 E121 F126 rfl
    have U128 : UC g112 m124 r83 3 3 [((r91 : Nat) : Int), ((r111 : Nat) : Int), 0] := U128
    have U130 : UC g112 m124 r5 2 8 [((r12 : Nat) : Int), ((r29 : Nat) : Int), ((r47 : Nat) : Int), ((r65 : Nat) : Int), 0, 0, 0, 0] := U122.o W127 (fun z => U90n z.symm)
    refine v_rv rfl rfl ?_
    show ex_q (dt_fg L ρ) rc (d + 2, (16, 45, [some (eR r5)], [eR r83, eR r5]), (14, 14, [some (eR a0), some (eI (2)), none, none], [eR r5]) :: f :: F, m124)
    obtain ⟨g131, I132, E133, b134, X135⟩ := U128.pb2 (ρ := 12) I125 (by decide) (by decide) rfl (fun k hk => match k, hk with
      | 0, _ => hO_r (b := r91) rfl (by rw [(E115.g b96 (by decide))]; rfl) (fun q => absurd q (by rw [(E115.g b96 (by decide))]; decide))
      | 1, _ => hO_r (b := r111) rfl (by rw [b116]; rfl) (fun q => absurd q (by rw [b116]; decide))
      | 2, _ => hO_i (x := 0) (lo := 0) (hi := 64) rfl (by decide)
      | k + 3, hk => absurd hk (by omega))
    have E136 := E121.t E133
    have U137 : UC g131 m124 r5 2 8 [((r12 : Nat) : Int), ((r29 : Nat) : Int), ((r47 : Nat) : Int), ((r65 : Nat) : Int), 0, 0, 0, 0] := U130.ge (a := r83) (ρ := 0) X135 U90n
    refine j_pu (np := 48) (w := ((r83 : Nat) : Int)) rfl rfl I132 U137 (Nat.ble_eq.mp rfl) rfl ?_
    intro m138 I139 F140 W141 U142
    have F143 : Fr l_14p_2 8 553 g μ m138 := F129.t3 E136 F140 rfl
    have U142 : UC g131 m138 r5 2 8 [((r12 : Nat) : Int), ((r29 : Nat) : Int), ((r47 : Nat) : Int), ((r65 : Nat) : Int), ((r83 : Nat) : Int), 0, 0, 0] := U142
    refine v_rv rfl rfl ?_
    show ex_q (dt_fg L ρ) rc (d + 3, (14, 14, [some (eR a0), some (eI (2)), none, none], [eR r5]), f :: F, m138)
    obtain ⟨g144, I145, E146, b147⟩ := U142.pb (ρ := 2) I139 (by decide) (by decide) rfl (fun k hk => match k, hk with
      | 0, _ => hO_r (b := r12) rfl (by rw [(E133.g (E115.g (E95.g (E69.g (E51.g (E33.g b17 (by decide)) (by decide)) (by decide)) (by decide)) (by decide)) (by decide))]; rfl) (fun q => absurd q (by rw [(E133.g (E115.g (E95.g (E69.g (E51.g (E33.g b17 (by decide)) (by decide)) (by decide)) (by decide)) (by decide)) (by decide))]; decide))
      | 1, _ => hO_r (b := r29) rfl (by rw [(E133.g (E115.g (E95.g (E69.g (E51.g b34 (by decide)) (by decide)) (by decide)) (by decide)) (by decide))]; rfl) (fun q => absurd q (by rw [(E133.g (E115.g (E95.g (E69.g (E51.g b34 (by decide)) (by decide)) (by decide)) (by decide)) (by decide))]; decide))
      | 2, _ => hO_r (b := r47) rfl (by rw [(E133.g (E115.g (E95.g (E69.g b52 (by decide)) (by decide)) (by decide)) (by decide))]; rfl) (fun q => absurd q (by rw [(E133.g (E115.g (E95.g (E69.g b52 (by decide)) (by decide)) (by decide)) (by decide))]; decide))
      | 3, _ => hO_r (b := r65) rfl (by rw [(E133.g (E115.g (E95.g b70 (by decide)) (by decide)) (by decide))]; rfl) (fun q => absurd q (by rw [(E133.g (E115.g (E95.g b70 (by decide)) (by decide)) (by decide))]; decide))
      | 4, _ => hO_r (b := r83) rfl (by rw [b134]; rfl) (fun q => absurd q (by rw [b134]; decide))
      | 5, _ => hO_i (x := 0) (lo := 0) (hi := 3) rfl (by decide)
      | 6, _ => hO_i (x := 0) (lo := 0) (hi := 5) rfl (by decide)
      | 7, _ => hO_i (x := 0) (lo := 0) (hi := 50) rfl (by decide)
      | k + 8, hk => absurd hk (by omega))
    have E149 := E136.t E146
    refine w_t (np := 15) (l2 := [some (eR a0), some (eI (2)), some (eR r5), none]) (s2 := []) rfl (s_sn (Nat.ble_eq.mp rfl) (pos_g I145 b147 (by decide)) rfl) rfl ?_
    refine w_t (np := 16) (l2 := [some (eR a0), some (eI (2)), some (eR r5), none]) (s2 := [eR a0]) rfl (s_an rfl (pos_g I145 (E146.g (E133.g (E115.g (E95.g (E69.g (E51.g (E33.g (E16.g gA0 (by decide)) (by decide)) (by decide)) (by decide)) (by decide)) (by decide)) (by decide)) (by decide)) (by decide))) rfl ?_
    refine j_no (np := 19) (n := 10) rfl rfl rfl I145 ?_
    intro r150 m151 I152 F153 U154 O155
    have F156 : Fr l_14p_2 9 563 g μ m151 := F143.t3 E149 F153 rfl
    have U154 : UC g144 m151 r150 0 10 [0, 0, 0, 0, 0, 0, 0, 0, 0, 0] := U154
    refine w_t (np := 20) (l2 := [some (eR a0), some (eI (2)), some (eR r5), none]) (s2 := [eR r150, eR r150, eR a0]) rfl rfl rfl ?_
    refine w_t (np := 21) (l2 := [some (eR a0), some (eI (2)), some (eR r5), none]) (s2 := [eR r5, eR r150, eR r150, eR a0]) rfl (s_an rfl (pos_g I152 b147 (by decide))) rfl ?_
    refine j_no (np := 24) (n := 15) rfl rfl rfl I152 ?_
    intro r157 m158 I159 F160 U161 O162
    have F163 : Fr l_14p_2 10 578 g μ m158 := F156.t3 E149 F160 rfl
    have U164 := (O162 _ _ _ _ U154).1
    have U164n := (O162 _ _ _ _ U154).2
    have U161 : UC g144 m158 r157 8 15 [0, 0, 0, 0, 0, 0, 0, 0, 0, 0, 0, 0, 0, 0, 0] := U161
    refine w_t (np := 25) (l2 := [some (eR a0), some (eI (2)), some (eR r5), none]) (s2 := [eR r157, eR r157, eR r5, eR r150, eR r150, eR a0]) rfl rfl rfl ?_
    refine w_t (np := 26) (l2 := [some (eR a0), some (eI (2)), some (eR r5), none]) (s2 := [eR r5, eR r157, eR r157, eR r5, eR r150, eR r150, eR a0]) rfl (s_an rfl (pos_g I159 b147 (by decide))) rfl ?_
    refine v_ci (np := 29) (as := [eR r5]) (lv' := [some (eR r157), some (eR r5)]) (rest := [eR r157, eR r5, eR r150, eR r150, eR a0]) rfl rfl rfl (Nat.ble_eq.mp rfl) rfl rfl rfl U161.2.1 rfl ?_
    refine w_t (np := 1) (l2 := [some (eR r157), some (eR r5)]) (s2 := [eR r157]) rfl (s_an rfl (by have := U161.2.1; omega)) rfl ?_
    refine v_oi (np := 4) rfl rfl (by have := U161.2.1; omega) rfl ?_
    refine w_t (np := 5) (l2 := [some (eR r157), some (eR r5)]) (s2 := [eR r157]) rfl (s_an rfl (by have := U161.2.1; omega)) rfl ?_
    refine w_t (np := 6) (l2 := [some (eR r157), some (eR r5)]) (s2 := [eR r5, eR r157]) rfl (s_an rfl (pos_g I159 b147 (by decide))) rfl ?_
    refine j_pu (np := 9) (w := ((r5 : Nat) : Int)) rfl rfl I159 U161 (Nat.ble_eq.mp rfl) rfl ?_
    intro m165 I166 F167 W168 U169
    have F170 : Fr l_14p_2 10 578 g μ m165 := F163.t3 E149 F167 rfl
    have U169 : UC g144 m165 r157 8 15 [0, 0, 0, 0, 0, 0, ((r5 : Nat) : Int), 0, 0, 0, 0, 0, 0, 0, 0] := U169
    have U171 : UC g144 m165 r150 0 10 [0, 0, 0, 0, 0, 0, 0, 0, 0, 0] := U164.o W168 (fun z => U164n z.symm)
    refine w_t (np := 10) (l2 := [some (eR r157), some (eR r5)]) (s2 := [eR r157]) rfl (s_an rfl (by have := U169.2.1; omega)) rfl ?_
    refine w_t (np := 13) (l2 := [some (eR r157), some (eR r5)]) (s2 := [eI (2670), eR r157]) rfl rfl rfl ?_
    refine j_na (np := 15) (ρ := 36) (lo := -1) (hi := 2669) rfl rfl I166 rfl (by decide) (by decide) (fun _ => rfl) (by decide) rfl ?_
    intro r172 g173 m174 I175 E176 b177 F178 U179 K180
    have F181 : Fr l_14p_2 11 3248 g μ m174 := F170.t3 E149 F178 rfl
    have E182 := E149.t E176
    have U183 : UC g173 m174 r150 0 10 [0, 0, 0, 0, 0, 0, 0, 0, 0, 0] := U179 _ _ _ _ U171
    have U184 : UC g173 m174 r157 8 15 [0, 0, 0, 0, 0, 0, ((r5 : Nat) : Int), 0, 0, 0, 0, 0, 0, 0, 0] := U179 _ _ _ _ U169
    refine j_pu (np := 18) (w := ((r172 : Nat) : Int)) rfl rfl I175 U184 (Nat.ble_eq.mp rfl) rfl ?_
    intro m185 I186 F187 W188 U189
    have F190 : Fr l_14p_2 11 3248 g μ m185 := F181.t3 E182 F187 rfl
    have U189 : UC g173 m185 r157 8 15 [((r172 : Nat) : Int), 0, 0, 0, 0, 0, ((r5 : Nat) : Int), 0, 0, 0, 0, 0, 0, 0, 0] := U189
    have U191 : UC g173 m185 r150 0 10 [0, 0, 0, 0, 0, 0, 0, 0, 0, 0] := U183.o W188 (fun z => U164n z.symm)
    refine w_t (np := 19) (l2 := [some (eR r157), some (eR r5)]) (s2 := [eR r157]) rfl (s_an rfl (by have := U189.2.1; omega)) rfl ?_
    refine w_t (np := 22) (l2 := [some (eR r157), some (eR r5)]) (s2 := [eI (512), eR r157]) rfl rfl rfl ?_
    refine j_na (np := 24) (ρ := 37) (lo := -1) (hi := 2669) rfl rfl I186 rfl (by decide) (by decide) (fun _ => rfl) (by decide) rfl ?_
    intro r192 g193 m194 I195 E196 b197 F198 U199 K200
    have F201 : Fr l_14p_2 12 3760 g μ m194 := F190.t3 E182 F198 rfl
    have E202 := E182.t E196
    have U203 : UC g193 m194 r150 0 10 [0, 0, 0, 0, 0, 0, 0, 0, 0, 0] := U199 _ _ _ _ U191
    have U204 : UC g193 m194 r157 8 15 [((r172 : Nat) : Int), 0, 0, 0, 0, 0, ((r5 : Nat) : Int), 0, 0, 0, 0, 0, 0, 0, 0] := U199 _ _ _ _ U189
    refine j_pu (np := 27) (w := ((r192 : Nat) : Int)) rfl rfl I195 U204 (Nat.ble_eq.mp rfl) rfl ?_
    intro m205 I206 F207 W208 U209
    have F210 : Fr l_14p_2 12 3760 g μ m205 := F201.t3 E202 F207 rfl
    have U209 : UC g193 m205 r157 8 15 [((r172 : Nat) : Int), ((r192 : Nat) : Int), 0, 0, 0, 0, ((r5 : Nat) : Int), 0, 0, 0, 0, 0, 0, 0, 0] := U209
    have U211 : UC g193 m205 r150 0 10 [0, 0, 0, 0, 0, 0, 0, 0, 0, 0] := U203.o W208 (fun z => U164n z.symm)
    refine w_t (np := 28) (l2 := [some (eR r157), some (eR r5)]) (s2 := [eR r157]) rfl (s_an rfl (by have := U209.2.1; omega)) rfl ?_
    refine w_t (np := 31) (l2 := [some (eR r157), some (eR r5)]) (s2 := [eI (2670), eR r157]) rfl rfl rfl ?_
    refine j_na (np := 33) (ρ := 38) (lo := -1) (hi := 2669) rfl rfl I206 rfl (by decide) (by decide) (fun _ => rfl) (by decide) rfl ?_
    intro r212 g213 m214 I215 E216 b217 F218 U219 K220
    have F221 : Fr l_14p_2 13 6430 g μ m214 := F210.t3 E202 F218 rfl
    have E222 := E202.t E216
    have U223 : UC g213 m214 r150 0 10 [0, 0, 0, 0, 0, 0, 0, 0, 0, 0] := U219 _ _ _ _ U211
    have U224 : UC g213 m214 r157 8 15 [((r172 : Nat) : Int), ((r192 : Nat) : Int), 0, 0, 0, 0, ((r5 : Nat) : Int), 0, 0, 0, 0, 0, 0, 0, 0] := U219 _ _ _ _ U209
    refine j_pu (np := 36) (w := ((r212 : Nat) : Int)) rfl rfl I215 U224 (Nat.ble_eq.mp rfl) rfl ?_
    intro m225 I226 F227 W228 U229
    have F230 : Fr l_14p_2 13 6430 g μ m225 := F221.t3 E222 F227 rfl
    have U229 : UC g213 m225 r157 8 15 [((r172 : Nat) : Int), ((r192 : Nat) : Int), ((r212 : Nat) : Int), 0, 0, 0, ((r5 : Nat) : Int), 0, 0, 0, 0, 0, 0, 0, 0] := U229
    have U231 : UC g213 m225 r150 0 10 [0, 0, 0, 0, 0, 0, 0, 0, 0, 0] := U223.o W228 (fun z => U164n z.symm)
    refine w_t (np := 37) (l2 := [some (eR r157), some (eR r5)]) (s2 := [eR r157]) rfl (s_an rfl (by have := U229.2.1; omega)) rfl ?_
    refine w_t (np := 40) (l2 := [some (eR r157), some (eR r5)]) (s2 := [eI (890), eR r157]) rfl rfl rfl ?_
    refine j_na (np := 42) (ρ := 39) (lo := -2147483648) (hi := 2147483647) rfl rfl I226 rfl (by decide) (by decide) (fun _ => rfl) (by decide) rfl ?_
    intro r232 g233 m234 I235 E236 b237 F238 U239 K240
    have F241 : Fr l_14p_2 14 7320 g μ m234 := F230.t3 E222 F238 rfl
    have E242 := E222.t E236
    have U243 : UC g233 m234 r150 0 10 [0, 0, 0, 0, 0, 0, 0, 0, 0, 0] := U239 _ _ _ _ U231
    have U244 : UC g233 m234 r157 8 15 [((r172 : Nat) : Int), ((r192 : Nat) : Int), ((r212 : Nat) : Int), 0, 0, 0, ((r5 : Nat) : Int), 0, 0, 0, 0, 0, 0, 0, 0] := U239 _ _ _ _ U229
    refine j_pu (np := 45) (w := ((r232 : Nat) : Int)) rfl rfl I235 U244 (Nat.ble_eq.mp rfl) rfl ?_
    intro m245 I246 F247 W248 U249
    have F250 : Fr l_14p_2 14 7320 g μ m245 := F241.t3 E242 F247 rfl
    have U249 : UC g233 m245 r157 8 15 [((r172 : Nat) : Int), ((r192 : Nat) : Int), ((r212 : Nat) : Int), ((r232 : Nat) : Int), 0, 0, ((r5 : Nat) : Int), 0, 0, 0, 0, 0, 0, 0, 0] := U249
    have U251 : UC g233 m245 r150 0 10 [0, 0, 0, 0, 0, 0, 0, 0, 0, 0] := U243.o W248 (fun z => U164n z.symm)
    refine w_t (np := 46) (l2 := [some (eR r157), some (eR r5)]) (s2 := [eR r157]) rfl (s_an rfl (by have := U249.2.1; omega)) rfl ?_
    refine w_t (np := 49) (l2 := [some (eR r157), some (eR r5)]) (s2 := [eI (890), eR r157]) rfl rfl rfl ?_
    refine j_na (np := 51) (ρ := 40) (lo := 0) (hi := 889) rfl rfl I246 rfl (by decide) (by decide) (fun _ => rfl) (by decide) rfl ?_
    intro r252 g253 m254 I255 E256 b257 F258 U259 K260
    have F261 : Fr l_14p_2 15 8210 g μ m254 := F250.t3 E242 F258 rfl
    have E262 := E242.t E256
    have U263 : UC g253 m254 r150 0 10 [0, 0, 0, 0, 0, 0, 0, 0, 0, 0] := U259 _ _ _ _ U251
    have U264 : UC g253 m254 r157 8 15 [((r172 : Nat) : Int), ((r192 : Nat) : Int), ((r212 : Nat) : Int), ((r232 : Nat) : Int), 0, 0, ((r5 : Nat) : Int), 0, 0, 0, 0, 0, 0, 0, 0] := U259 _ _ _ _ U249
    refine j_pu (np := 54) (w := ((r252 : Nat) : Int)) rfl rfl I255 U264 (Nat.ble_eq.mp rfl) rfl ?_
    intro m265 I266 F267 W268 U269
    have F270 : Fr l_14p_2 15 8210 g μ m265 := F261.t3 E262 F267 rfl
    have U269 : UC g253 m265 r157 8 15 [((r172 : Nat) : Int), ((r192 : Nat) : Int), ((r212 : Nat) : Int), ((r232 : Nat) : Int), ((r252 : Nat) : Int), 0, ((r5 : Nat) : Int), 0, 0, 0, 0, 0, 0, 0, 0] := U269
    have U271 : UC g253 m265 r150 0 10 [0, 0, 0, 0, 0, 0, 0, 0, 0, 0] := U263.o W268 (fun z => U164n z.symm)
    refine w_t (np := 55) (l2 := [some (eR r157), some (eR r5)]) (s2 := [eR r157]) rfl (s_an rfl (by have := U269.2.1; omega)) rfl ?_
    refine w_t (np := 58) (l2 := [some (eR r157), some (eR r5)]) (s2 := [eI (512), eR r157]) rfl rfl rfl ?_
    refine j_na (np := 60) (ρ := 41) (lo := -1) (hi := 511) rfl rfl I266 rfl (by decide) (by decide) (fun _ => rfl) (by decide) rfl ?_
    intro r272 g273 m274 I275 E276 b277 F278 U279 K280
    have F281 : Fr l_14p_2 16 8722 g μ m274 := F270.t3 E262 F278 rfl
    have E282 := E262.t E276
    have U283 : UC g273 m274 r150 0 10 [0, 0, 0, 0, 0, 0, 0, 0, 0, 0] := U279 _ _ _ _ U271
    have U284 : UC g273 m274 r157 8 15 [((r172 : Nat) : Int), ((r192 : Nat) : Int), ((r212 : Nat) : Int), ((r232 : Nat) : Int), ((r252 : Nat) : Int), 0, ((r5 : Nat) : Int), 0, 0, 0, 0, 0, 0, 0, 0] := U279 _ _ _ _ U269
    refine j_pu (np := 63) (w := ((r272 : Nat) : Int)) rfl rfl I275 U284 (Nat.ble_eq.mp rfl) rfl ?_
    intro m285 I286 F287 W288 U289
    have F290 : Fr l_14p_2 16 8722 g μ m285 := F281.t3 E282 F287 rfl
    have U289 : UC g273 m285 r157 8 15 [((r172 : Nat) : Int), ((r192 : Nat) : Int), ((r212 : Nat) : Int), ((r232 : Nat) : Int), ((r252 : Nat) : Int), ((r272 : Nat) : Int), ((r5 : Nat) : Int), 0, 0, 0, 0, 0, 0, 0, 0] := U289
    have U291 : UC g273 m285 r150 0 10 [0, 0, 0, 0, 0, 0, 0, 0, 0, 0] := U283.o W288 (fun z => U164n z.symm)
    refine v_rv rfl rfl ?_
    show ex_q (dt_fg L ρ) rc (d + 3, (14, 29, [some (eR a0), some (eI (2)), some (eR r5), none], [eR r157, eR r5, eR r150, eR r150, eR a0]), f :: F, m285)
    obtain ⟨g292, I293, E294, b295, X296⟩ := U289.pb2 (ρ := 35) I286 (by decide) (by decide) rfl (fun k hk => match k, hk with
      | 0, _ => hO_r (b := r172) rfl (by rw [(E276.g (E256.g (E236.g (E216.g (E196.g b177 (by decide)) (by decide)) (by decide)) (by decide)) (by decide))]; rfl) (fun q => absurd q (by rw [(E276.g (E256.g (E236.g (E216.g (E196.g b177 (by decide)) (by decide)) (by decide)) (by decide)) (by decide))]; decide))
      | 1, _ => hO_r (b := r192) rfl (by rw [(E276.g (E256.g (E236.g (E216.g b197 (by decide)) (by decide)) (by decide)) (by decide))]; rfl) (fun q => absurd q (by rw [(E276.g (E256.g (E236.g (E216.g b197 (by decide)) (by decide)) (by decide)) (by decide))]; decide))
      | 2, _ => hO_r (b := r212) rfl (by rw [(E276.g (E256.g (E236.g b217 (by decide)) (by decide)) (by decide))]; rfl) (fun q => absurd q (by rw [(E276.g (E256.g (E236.g b217 (by decide)) (by decide)) (by decide))]; decide))
      | 3, _ => hO_r (b := r232) rfl (by rw [(E276.g (E256.g b237 (by decide)) (by decide))]; rfl) (fun q => absurd q (by rw [(E276.g (E256.g b237 (by decide)) (by decide))]; decide))
      | 4, _ => hO_r (b := r252) rfl (by rw [(E276.g b257 (by decide))]; rfl) (fun q => absurd q (by rw [(E276.g b257 (by decide))]; decide))
      | 5, _ => hO_r (b := r272) rfl (by rw [b277]; rfl) (fun q => absurd q (by rw [b277]; decide))
      | 6, _ => hO_r (b := r5) rfl (by rw [(E276.g (E256.g (E236.g (E216.g (E196.g (E176.g b147 (by decide)) (by decide)) (by decide)) (by decide)) (by decide)) (by decide))]; rfl) (fun q => absurd q (by rw [(E276.g (E256.g (E236.g (E216.g (E196.g (E176.g b147 (by decide)) (by decide)) (by decide)) (by decide)) (by decide)) (by decide))]; decide))
      | 7, _ => hO_i (x := 0) (lo := -2147483648) (hi := 2147483647) rfl (by decide)
      | 8, _ => hO_i (x := 0) (lo := -2147483648) (hi := 2147483647) rfl (by decide)
      | 9, _ => hO_i (x := 0) (lo := -2147483648) (hi := 2147483647) rfl (by decide)
      | 10, _ => hO_i (x := 0) (lo := -2147483648) (hi := 2147483647) rfl (by decide)
      | 11, _ => hO_i (x := 0) (lo := -2147483648) (hi := 2147483647) rfl (by decide)
      | 12, _ => hO_i (x := 0) (lo := -2147483648) (hi := 2147483647) rfl (by decide)
      | 13, _ => hO_i (x := 0) (lo := -2147483648) (hi := 2147483647) rfl (by decide)
      | 14, _ => hO_i (x := 0) (lo := -2147483648) (hi := 2147483647) rfl (by decide)
      | k + 15, hk => absurd hk (by omega))
    have E297 := E282.t E294
    have U298 : UC g292 m285 r150 0 10 [0, 0, 0, 0, 0, 0, 0, 0, 0, 0] := U291.ge (a := r157) (ρ := 0) X296 U164n
    refine v_ci (np := 32) (as := [eR r5, eR r157]) (lv' := [some (eR r150), some (eR r5), some (eR r157)]) (rest := [eR r150, eR a0]) rfl rfl rfl (Nat.ble_eq.mp rfl) rfl rfl rfl U298.2.1 rfl ?_
    refine w_t (np := 1) (l2 := [some (eR r150), some (eR r5), some (eR r157)]) (s2 := [eR r150]) rfl (s_an rfl (by have := U298.2.1; omega)) rfl ?_
    refine v_oi (np := 4) rfl rfl (by have := U298.2.1; omega) rfl ?_
    refine w_t (np := 5) (l2 := [some (eR r150), some (eR r5), some (eR r157)]) (s2 := [eR r150]) rfl (s_an rfl (by have := U298.2.1; omega)) rfl ?_
    refine w_t (np := 6) (l2 := [some (eR r150), some (eR r5), some (eR r157)]) (s2 := [eR r5, eR r150]) rfl (s_an rfl (pos_g I293 (E294.g (E276.g (E256.g (E236.g (E216.g (E196.g (E176.g b147 (by decide)) (by decide)) (by decide)) (by decide)) (by decide)) (by decide)) (by decide)) (by decide))) rfl ?_
    refine j_pu (np := 9) (w := ((r5 : Nat) : Int)) rfl rfl I293 U298 (Nat.ble_eq.mp rfl) rfl ?_
    intro m299 I300 F301 W302 U303
    have F304 : Fr l_14p_2 16 8722 g μ m299 := F290.t3 E297 F301 rfl
    have U303 : UC g292 m299 r150 0 10 [0, 0, 0, 0, 0, ((r5 : Nat) : Int), 0, 0, 0, 0] := U303
    refine w_t (np := 10) (l2 := [some (eR r150), some (eR r5), some (eR r157)]) (s2 := [eR r150]) rfl (s_an rfl (by have := U303.2.1; omega)) rfl ?_
    refine w_t (np := 11) (l2 := [some (eR r150), some (eR r5), some (eR r157)]) (s2 := [eR r157, eR r150]) rfl (s_an rfl (pos_g I300 b295 (by decide))) rfl ?_
    refine j_pu (np := 14) (w := ((r157 : Nat) : Int)) rfl rfl I300 U303 (Nat.ble_eq.mp rfl) rfl ?_
    intro m305 I306 F307 W308 U309
    have F310 : Fr l_14p_2 16 8722 g μ m305 := F304.t3 E297 F307 rfl
    have U309 : UC g292 m305 r150 0 10 [0, 0, 0, 0, 0, ((r5 : Nat) : Int), ((r157 : Nat) : Int), 0, 0, 0] := U309
    refine w_t (np := 15) (l2 := [some (eR r150), some (eR r5), some (eR r157)]) (s2 := [eR r150]) rfl (s_an rfl (by have := U309.2.1; omega)) rfl ?_
    refine w_t (np := 18) (l2 := [some (eR r150), some (eR r5), some (eR r157)]) (s2 := [eI (512), eR r150]) rfl rfl rfl ?_
    refine j_na (np := 20) (ρ := 43) (lo := -2147483648) (hi := 2147483647) rfl rfl I306 rfl (by decide) (by decide) (fun _ => rfl) (by decide) rfl ?_
    intro r311 g312 m313 I314 E315 b316 F317 U318 K319
    have F320 : Fr l_14p_2 17 9234 g μ m313 := F310.t3 E297 F317 rfl
    have E321 := E297.t E315
    have U322 : UC g312 m313 r150 0 10 [0, 0, 0, 0, 0, ((r5 : Nat) : Int), ((r157 : Nat) : Int), 0, 0, 0] := U318 _ _ _ _ U309
    refine j_pu (np := 23) (w := ((r311 : Nat) : Int)) rfl rfl I314 U322 (Nat.ble_eq.mp rfl) rfl ?_
    intro m323 I324 F325 W326 U327
    have F328 : Fr l_14p_2 17 9234 g μ m323 := F320.t3 E321 F325 rfl
    have U327 : UC g312 m323 r150 0 10 [((r311 : Nat) : Int), 0, 0, 0, 0, ((r5 : Nat) : Int), ((r157 : Nat) : Int), 0, 0, 0] := U327
    refine w_t (np := 24) (l2 := [some (eR r150), some (eR r5), some (eR r157)]) (s2 := [eR r150]) rfl (s_an rfl (by have := U327.2.1; omega)) rfl ?_
    refine w_t (np := 27) (l2 := [some (eR r150), some (eR r5), some (eR r157)]) (s2 := [eI (512), eR r150]) rfl rfl rfl ?_
    refine j_na (np := 29) (ρ := 44) (lo := -9223372036854775808) (hi := 9223372036854775807) rfl rfl I324 rfl (by decide) (by decide) (fun _ => rfl) (by decide) rfl ?_
    intro r329 g330 m331 I332 E333 b334 F335 U336 K337
    have F338 : Fr l_14p_2 18 9746 g μ m331 := F328.t3 E321 F335 rfl
    have E339 := E321.t E333
    have U340 : UC g330 m331 r150 0 10 [((r311 : Nat) : Int), 0, 0, 0, 0, ((r5 : Nat) : Int), ((r157 : Nat) : Int), 0, 0, 0] := U336 _ _ _ _ U327
    refine j_pu (np := 32) (w := ((r329 : Nat) : Int)) rfl rfl I332 U340 (Nat.ble_eq.mp rfl) rfl ?_
    intro m341 I342 F343 W344 U345
    have F346 : Fr l_14p_2 18 9746 g μ m341 := F338.t3 E339 F343 rfl
    have U345 : UC g330 m341 r150 0 10 [((r311 : Nat) : Int), ((r329 : Nat) : Int), 0, 0, 0, ((r5 : Nat) : Int), ((r157 : Nat) : Int), 0, 0, 0] := U345
    refine w_t (np := 33) (l2 := [some (eR r150), some (eR r5), some (eR r157)]) (s2 := [eR r150]) rfl (s_an rfl (by have := U345.2.1; omega)) rfl ?_
    refine w_t (np := 36) (l2 := [some (eR r150), some (eR r5), some (eR r157)]) (s2 := [eI (512), eR r150]) rfl rfl rfl ?_
    refine j_na (np := 38) (ρ := 45) (lo := 0) (hi := 1) rfl rfl I342 rfl (by decide) (by decide) (fun _ => rfl) (by decide) rfl ?_
    intro r347 g348 m349 I350 E351 b352 F353 U354 K355
    have F356 : Fr l_14p_2 19 10258 g μ m349 := F346.t3 E339 F353 rfl
    have E357 := E339.t E351
    have U358 : UC g348 m349 r150 0 10 [((r311 : Nat) : Int), ((r329 : Nat) : Int), 0, 0, 0, ((r5 : Nat) : Int), ((r157 : Nat) : Int), 0, 0, 0] := U354 _ _ _ _ U345
    refine j_pu (np := 41) (w := ((r347 : Nat) : Int)) rfl rfl I350 U358 (Nat.ble_eq.mp rfl) rfl ?_
    intro m359 I360 F361 W362 U363
    have F364 : Fr l_14p_2 19 10258 g μ m359 := F356.t3 E357 F361 rfl
    have U363 : UC g348 m359 r150 0 10 [((r311 : Nat) : Int), ((r329 : Nat) : Int), ((r347 : Nat) : Int), 0, 0, ((r5 : Nat) : Int), ((r157 : Nat) : Int), 0, 0, 0] := U363
    refine w_t (np := 42) (l2 := [some (eR r150), some (eR r5), some (eR r157)]) (s2 := [eR r150]) rfl (s_an rfl (by have := U363.2.1; omega)) rfl ?_
    refine w_t (np := 45) (l2 := [some (eR r150), some (eR r5), some (eR r157)]) (s2 := [eI (512), eR r150]) rfl rfl rfl ?_
    refine j_na (np := 47) (ρ := 46) (lo := -2147483648) (hi := 2147483647) rfl rfl I360 rfl (by decide) (by decide) (fun _ => rfl) (by decide) rfl ?_
    intro r365 g366 m367 I368 E369 b370 F371 U372 K373
    have F374 : Fr l_14p_2 20 10770 g μ m367 := F364.t3 E357 F371 rfl
    have E375 := E357.t E369
    have U376 : UC g366 m367 r150 0 10 [((r311 : Nat) : Int), ((r329 : Nat) : Int), ((r347 : Nat) : Int), 0, 0, ((r5 : Nat) : Int), ((r157 : Nat) : Int), 0, 0, 0] := U372 _ _ _ _ U363
    refine j_pu (np := 50) (w := ((r365 : Nat) : Int)) rfl rfl I368 U376 (Nat.ble_eq.mp rfl) rfl ?_
    intro m377 I378 F379 W380 U381
    have F382 : Fr l_14p_2 20 10770 g μ m377 := F374.t3 E375 F379 rfl
    have U381 : UC g366 m377 r150 0 10 [((r311 : Nat) : Int), ((r329 : Nat) : Int), ((r347 : Nat) : Int), ((r365 : Nat) : Int), 0, ((r5 : Nat) : Int), ((r157 : Nat) : Int), 0, 0, 0] := U381
    refine w_t (np := 51) (l2 := [some (eR r150), some (eR r5), some (eR r157)]) (s2 := [eR r150]) rfl (s_an rfl (by have := U381.2.1; omega)) rfl ?_
    refine w_t (np := 53) (l2 := [some (eR r150), some (eR r5), some (eR r157)]) (s2 := [eI (64), eR r150]) rfl rfl rfl ?_
    refine j_na (np := 55) (ρ := 47) (lo := -2147483648) (hi := 2147483647) rfl rfl I378 rfl (by decide) (by decide) (fun _ => rfl) (by decide) rfl ?_
    intro r383 g384 m385 I386 E387 b388 F389 U390 K391
    have F392 : Fr l_14p_2 21 10834 g μ m385 := F382.t3 E375 F389 rfl
    have E393 := E375.t E387
    have U394 : UC g384 m385 r150 0 10 [((r311 : Nat) : Int), ((r329 : Nat) : Int), ((r347 : Nat) : Int), ((r365 : Nat) : Int), 0, ((r5 : Nat) : Int), ((r157 : Nat) : Int), 0, 0, 0] := U390 _ _ _ _ U381
    refine j_pu (np := 58) (w := ((r383 : Nat) : Int)) rfl rfl I386 U394 (Nat.ble_eq.mp rfl) rfl ?_
    intro m395 I396 F397 W398 U399
    have F400 : Fr l_14p_2 21 10834 g μ m395 := F392.t3 E393 F397 rfl
    have U399 : UC g384 m395 r150 0 10 [((r311 : Nat) : Int), ((r329 : Nat) : Int), ((r347 : Nat) : Int), ((r365 : Nat) : Int), ((r383 : Nat) : Int), ((r5 : Nat) : Int), ((r157 : Nat) : Int), 0, 0, 0] := U399
    refine v_rv rfl rfl ?_
    show ex_q (dt_fg L ρ) rc (d + 3, (14, 32, [some (eR a0), some (eI (2)), some (eR r5), none], [eR r150, eR a0]), f :: F, m395)
    obtain ⟨g401, I402, E403, b404⟩ := U399.pb (ρ := 42) I396 (by decide) (by decide) rfl (fun k hk => match k, hk with
      | 0, _ => hO_r (b := r311) rfl (by rw [(E387.g (E369.g (E351.g (E333.g b316 (by decide)) (by decide)) (by decide)) (by decide))]; rfl) (fun q => absurd q (by rw [(E387.g (E369.g (E351.g (E333.g b316 (by decide)) (by decide)) (by decide)) (by decide))]; decide))
      | 1, _ => hO_r (b := r329) rfl (by rw [(E387.g (E369.g (E351.g b334 (by decide)) (by decide)) (by decide))]; rfl) (fun q => absurd q (by rw [(E387.g (E369.g (E351.g b334 (by decide)) (by decide)) (by decide))]; decide))
      | 2, _ => hO_r (b := r347) rfl (by rw [(E387.g (E369.g b352 (by decide)) (by decide))]; rfl) (fun q => absurd q (by rw [(E387.g (E369.g b352 (by decide)) (by decide))]; decide))
      | 3, _ => hO_r (b := r365) rfl (by rw [(E387.g b370 (by decide))]; rfl) (fun q => absurd q (by rw [(E387.g b370 (by decide))]; decide))
      | 4, _ => hO_r (b := r383) rfl (by rw [b388]; rfl) (fun q => absurd q (by rw [b388]; decide))
      | 5, _ => hO_r (b := r5) rfl (by rw [(E387.g (E369.g (E351.g (E333.g (E315.g (E294.g (E276.g (E256.g (E236.g (E216.g (E196.g (E176.g b147 (by decide)) (by decide)) (by decide)) (by decide)) (by decide)) (by decide)) (by decide)) (by decide)) (by decide)) (by decide)) (by decide)) (by decide))]; rfl) (fun q => absurd q (by rw [(E387.g (E369.g (E351.g (E333.g (E315.g (E294.g (E276.g (E256.g (E236.g (E216.g (E196.g (E176.g b147 (by decide)) (by decide)) (by decide)) (by decide)) (by decide)) (by decide)) (by decide)) (by decide)) (by decide)) (by decide)) (by decide)) (by decide))]; decide))
      | 6, _ => hO_r (b := r157) rfl (by rw [(E387.g (E369.g (E351.g (E333.g (E315.g b295 (by decide)) (by decide)) (by decide)) (by decide)) (by decide))]; rfl) (fun q => absurd q (by rw [(E387.g (E369.g (E351.g (E333.g (E315.g b295 (by decide)) (by decide)) (by decide)) (by decide)) (by decide))]; decide))
      | 7, _ => hO_i (x := 0) (lo := 0) (hi := 512) rfl (by decide)
      | 8, _ => hO_i (x := 0) (lo := -2147483648) (hi := 2147483647) rfl (by decide)
      | 9, _ => hO_i (x := 0) (lo := 0) (hi := 64) rfl (by decide)
      | k + 10, hk => absurd hk (by omega))
    have E406 := E393.t E403
    refine j_pf (np := 35) (w := ((r150 : Nat) : Int)) rfl rfl I402 (E403.g (E387.g (E369.g (E351.g (E333.g (E315.g (E294.g (E276.g (E256.g (E236.g (E216.g (E196.g (E176.g (E146.g (E133.g (E115.g (E95.g (E69.g (E51.g (E33.g (E16.g gA0 (by decide)) (by decide)) (by decide)) (by decide)) (by decide)) (by decide)) (by decide)) (by decide)) (by decide)) (by decide)) (by decide)) (by decide)) (by decide)) (by decide)) (by decide)) (by decide)) (by decide)) (by decide)) (by decide)) (by decide)) (by decide)) (by decide) (n := 4) rfl rfl (hO_r rfl (by rw [b404]; rfl) (fun q => absurd q (by rw [b404]; decide))) ?_
    intro m407 I408 W409
    have F410 : Fr l_14p_2 21 10834 g μ m407 := F400.w3 E406 W409 (E403.g (E387.g (E369.g (E351.g (E333.g (E315.g (E294.g (E276.g (E256.g (E236.g (E216.g (E196.g (E176.g (E146.g (E133.g (E115.g (E95.g (E69.g (E51.g (E33.g (E16.g gA0 (by decide)) (by decide)) (by decide)) (by decide)) (by decide)) (by decide)) (by decide)) (by decide)) (by decide)) (by decide)) (by decide)) (by decide)) (by decide)) (by decide)) (by decide)) (by decide)) (by decide)) (by decide)) (by decide)) (by decide)) (by decide)) rfl
    refine w_t (np := 36) (l2 := [some (eR a0), some (eI (2)), some (eR r5), none]) (s2 := [eR a0]) rfl (s_an rfl (pos_g I408 (E403.g (E387.g (E369.g (E351.g (E333.g (E315.g (E294.g (E276.g (E256.g (E236.g (E216.g (E196.g (E176.g (E146.g (E133.g (E115.g (E95.g (E69.g (E51.g (E33.g (E16.g gA0 (by decide)) (by decide)) (by decide)) (by decide)) (by decide)) (by decide)) (by decide)) (by decide)) (by decide)) (by decide)) (by decide)) (by decide)) (by decide)) (by decide)) (by decide)) (by decide)) (by decide)) (by decide)) (by decide)) (by decide)) (by decide)) (by decide))) rfl ?_
    refine j_gr (np := 39) rfl rfl I408 (E403.g (E387.g (E369.g (E351.g (E333.g (E315.g (E294.g (E276.g (E256.g (E236.g (E216.g (E196.g (E176.g (E146.g (E133.g (E115.g (E95.g (E69.g (E51.g (E33.g (E16.g gA0 (by decide)) (by decide)) (by decide)) (by decide)) (by decide)) (by decide)) (by decide)) (by decide)) (by decide)) (by decide)) (by decide)) (by decide)) (by decide)) (by decide)) (by decide)) (by decide)) (by decide)) (by decide)) (by decide)) (by decide)) (by decide)) (by decide) (n := 4) rfl rfl rfl ?_
    intro v411 e412 b413 z414
    have b413 : g401 v411 = 51 := Nat.eq_of_beq_eq_true b413
    refine w_t (np := 40) (l2 := [some (eR a0), some (eI (2)), some (eR r5), none]) (s2 := [eI (2), eR v411]) rfl rfl rfl ?_
    refine w_t (np := 41) (l2 := [some (eR a0), some (eI (2)), some (eR r5), none]) (s2 := [eI (0), eI (2), eR v411]) rfl rfl rfl ?_
    refine j_as (np := 42) rfl rfl I408 b413 (by decide) (n := 4) rfl rfl (lo := -1) (hi := 64) (fun _ => rfl) (by decide) (by decide) (by decide) ?_
    intro m415 I416 W417
    have F418 : Fr l_14p_2 21 10834 g μ m415 := F410.v3 E406 W417 b413 rfl rfl
    exact K g401 m415 r150 v411 _ _ _ E406 I416 F418 (Or.inr ⟨e2, by decide, by decide⟩) b404 (W417.addr W409.at b413 (E403.g (E387.g (E369.g (E351.g (E333.g (E315.g (E294.g (E276.g (E256.g (E236.g (E216.g (E196.g (E176.g (E146.g (E133.g (E115.g (E95.g (E69.g (E51.g (E33.g (E16.g gA0 (by decide)) (by decide)) (by decide)) (by decide)) (by decide)) (by decide)) (by decide)) (by decide)) (by decide)) (by decide)) (by decide)) (by decide)) (by decide)) (by decide)) (by decide)) (by decide)) (by decide)) (by decide)) (by decide)) (by decide)) (by decide)) (by decide)) (W417.addr e412 b413 (E403.g (E387.g (E369.g (E351.g (E333.g (E315.g (E294.g (E276.g (E256.g (E236.g (E216.g (E196.g (E176.g (E146.g (E133.g (E115.g (E95.g (E69.g (E51.g (E33.g (E16.g gA0 (by decide)) (by decide)) (by decide)) (by decide)) (by decide)) (by decide)) (by decide)) (by decide)) (by decide)) (by decide)) (by decide)) (by decide)) (by decide)) (by decide)) (by decide)) (by decide)) (by decide)) (by decide)) (by decide)) (by decide)) (by decide)) (by decide)) b413 W417.at
  · refine v_nn_t (t1 := 35) rfl rfl (beq_g hI b3 (by decide)) ?_
    refine w_t (np := 36) (l2 := [some (eR a0), some (eI (2)), none, none]) (s2 := [eR a0]) rfl (s_an rfl (pos_g hI gA0 (by decide))) rfl ?_
    refine j_gr (np := 39) rfl rfl hI gA0 (by decide) (n := 4) rfl rfl rfl ?_
    intro v5 e6 b7 z8
    have b7 : g v5 = 51 := Nat.eq_of_beq_eq_true b7
    refine w_t (np := 40) (l2 := [some (eR a0), some (eI (2)), none, none]) (s2 := [eI (2), eR v5]) rfl rfl rfl ?_
    refine w_t (np := 41) (l2 := [some (eR a0), some (eI (2)), none, none]) (s2 := [eI (0), eI (2), eR v5]) rfl rfl rfl ?_
    refine j_as (np := 42) rfl rfl hI b7 (by decide) (n := 4) rfl rfl (lo := -1) (hi := 64) (fun _ => rfl) (by decide) (by decide) (by decide) ?_
    intro m9 I10 W11
    have F12 : Fr l_14p_2 0 0 g μ m9 := F0.v W11 b7 rfl rfl
    exact K g m9 v1 v5 _ _ _ hI.re I10 F12 (Or.inl ⟨(fun z => by have h9 := e2; have h8 := pos_g hI b3 (by decide); omega), rfl, rfl⟩) b3 (W11.addr e2 b7 gA0 (by decide)) (W11.addr e6 b7 gA0 (by decide)) b7 W11.at
def l_14p_3 : List Nat := [12292, 13056]
theorem s_14p_3 {L : Nat} {ρ : Nat → Int} {rc : eQ} {d : Nat} {f : eFr} {F : List eFr} {μ : eM} {g : Nat → Nat} {a0 : Nat} (hI : SI g μ) (gA0 : g a0 = 48) (K : ∀ (g2 : Nat → Nat) (μ2 : eM) (t r : Nat) (o : Option eV) (c s : Nat), GE g g2 → SI g2 μ2 → Fr l_14p_3 c s g μ μ2 → (μ.1 a0 3 ≠ 0 ∧ c = 0 ∧ s = 0 ∨ μ.1 a0 3 = 0 ∧ c ≤ 30 ∧ s ≤ 11400) → g2 t = 42 → μ2.1 a0 3 = (t : Int) → μ2.1 a0 2 = (r : Int) → g2 r = 51 → μ2.1 r 3 = 0 → ex_q (dt_fg L ρ) rc (d + 3, (14, 42, [some (eR a0), some (eI (3)), o, none], []), f :: F, μ2)) : ex_q (dt_fg L ρ) rc (d + 3, (14, 0, [some (eR a0), some (eI (3)), none, none], []), f :: F, μ) := by
  have F0 : Fr l_14p_3 0 0 g μ μ := Fr.r
  refine w_t (np := 1) (l2 := [some (eR a0), some (eI (3)), none, none]) (s2 := [eR a0]) rfl (s_an rfl (pos_g hI gA0 (by decide))) rfl ?_
  refine j_gr (np := 4) rfl rfl hI gA0 (by decide) (n := 4) rfl rfl rfl ?_
  intro v1 e2 b3 z4
  rcases hor2 b3 with b3 | b3
  · have z4 : v1 = 0 := z4 b3
    subst z4
    refine v_nn_f (t1 := 35) rfl rfl rfl ?_
    show ex_q (dt_fg L ρ) rc (d + 3, (14, 7, [some (eR a0), some (eI (3)), none, none], []), f :: F, μ)
    refine j_no (np := 10) (n := 8) rfl rfl rfl hI ?_
    intro r5 m6 I7 F8 U9 O10
    have F11 : Fr l_14p_3 1 8 g μ m6 := F0.t F8 rfl
    have U9 : UC g m6 r5 2 8 [0, 0, 0, 0, 0, 0, 0, 0] := U9
    refine w_t (np := 11) (l2 := [some (eR a0), some (eI (3)), none, none]) (s2 := [eR r5, eR r5]) rfl rfl rfl ?_
    refine v_ci (np := 14) (as := []) (lv' := [some (eR r5)]) (rest := [eR r5]) rfl rfl rfl (Nat.ble_eq.mp rfl) rfl rfl rfl U9.2.1 rfl ?_
    refine w_t (np := 1) (l2 := [some (eR r5)]) (s2 := [eR r5]) rfl (s_an rfl (by have := U9.2.1; omega)) rfl ?_
    refine v_oi (np := 4) rfl rfl (by have := U9.2.1; omega) rfl ?_
    refine w_t (np := 5) (l2 := [some (eR r5)]) (s2 := [eR r5]) rfl (s_an rfl (by have := U9.2.1; omega)) rfl ?_
    refine w_t (np := 7) (l2 := [some (eR r5)]) (s2 := [eI (50), eR r5]) rfl rfl rfl ?_
    refine j_na (np := 9) (ρ := 3) (lo := 0) (hi := 1) rfl rfl I7 rfl (by decide) (by decide) (fun _ => rfl) (by decide) rfl ?_
    intro r12 g13 m14 I15 E16 b17 F18 U19 K20
    have F21 : Fr l_14p_3 2 58 g μ m14 := F11.t F18 rfl
    have U22 : UC g13 m14 r5 2 8 [0, 0, 0, 0, 0, 0, 0, 0] := U19 _ _ _ _ U9
    refine j_pu (np := 12) (w := ((r12 : Nat) : Int)) rfl rfl I15 U22 (Nat.ble_eq.mp rfl) rfl ?_
    intro m23 I24 F25 W26 U27
    have F28 : Fr l_14p_3 2 58 g μ m23 := F21.t3 E16 F25 rfl
    have U27 : UC g13 m23 r5 2 8 [((r12 : Nat) : Int), 0, 0, 0, 0, 0, 0, 0] := U27
    refine w_t (np := 13) (l2 := [some (eR r5)]) (s2 := [eR r5]) rfl (s_an rfl (by have := U27.2.1; omega)) rfl ?_
    refine w_t (np := 15) (l2 := [some (eR r5)]) (s2 := [eI (50), eR r5]) rfl rfl rfl ?_
    refine j_na (np := 17) (ρ := 4) (lo := -2147483648) (hi := 2147483647) rfl rfl I24 rfl (by decide) (by decide) (fun _ => rfl) (by decide) rfl ?_
    intro r29 g30 m31 I32 E33 b34 F35 U36 K37
    have F38 : Fr l_14p_3 3 108 g μ m31 := F28.t3 E16 F35 rfl
    have E39 := E16.t E33
    have U40 : UC g30 m31 r5 2 8 [((r12 : Nat) : Int), 0, 0, 0, 0, 0, 0, 0] := U36 _ _ _ _ U27
    refine j_pu (np := 20) (w := ((r29 : Nat) : Int)) rfl rfl I32 U40 (Nat.ble_eq.mp rfl) rfl ?_
    intro m41 I42 F43 W44 U45
    have F46 : Fr l_14p_3 3 108 g μ m41 := F38.t3 E39 F43 rfl
    have U45 : UC g30 m41 r5 2 8 [((r12 : Nat) : Int), ((r29 : Nat) : Int), 0, 0, 0, 0, 0, 0] := U45
    refine w_t (np := 21) (l2 := [some (eR r5)]) (s2 := [eR r5]) rfl (s_an rfl (by have := U45.2.1; omega)) rfl ?_
    refine w_t (np := 24) (l2 := [some (eR r5)]) (s2 := [eI (150), eR r5]) rfl rfl rfl ?_
    refine j_na (np := 26) (ρ := 5) (lo := 0) (hi := 511) rfl rfl I42 rfl (by decide) (by decide) (fun _ => rfl) (by decide) rfl ?_
    intro r47 g48 m49 I50 E51 b52 F53 U54 K55
    have F56 : Fr l_14p_3 4 258 g μ m49 := F46.t3 E39 F53 rfl
    have E57 := E39.t E51
    have U58 : UC g48 m49 r5 2 8 [((r12 : Nat) : Int), ((r29 : Nat) : Int), 0, 0, 0, 0, 0, 0] := U54 _ _ _ _ U45
    refine j_pu (np := 29) (w := ((r47 : Nat) : Int)) rfl rfl I50 U58 (Nat.ble_eq.mp rfl) rfl ?_
    intro m59 I60 F61 W62 U63
    have F64 : Fr l_14p_3 4 258 g μ m59 := F56.t3 E57 F61 rfl
    have U63 : UC g48 m59 r5 2 8 [((r12 : Nat) : Int), ((r29 : Nat) : Int), ((r47 : Nat) : Int), 0, 0, 0, 0, 0] := U63
    refine w_t (np := 30) (l2 := [some (eR r5)]) (s2 := [eR r5]) rfl (s_an rfl (by have := U63.2.1; omega)) rfl ?_
    refine w_t (np := 32) (l2 := [some (eR r5)]) (s2 := [eI (100), eR r5]) rfl rfl rfl ?_
    refine j_na (np := 34) (ρ := 6) (lo := 0) (hi := 9) rfl rfl I60 rfl (by decide) (by decide) (fun _ => rfl) (by decide) rfl ?_
    intro r65 g66 m67 I68 E69 b70 F71 U72 K73
    have F74 : Fr l_14p_3 5 358 g μ m67 := F64.t3 E57 F71 rfl
    have E75 := E57.t E69
    have U76 : UC g66 m67 r5 2 8 [((r12 : Nat) : Int), ((r29 : Nat) : Int), ((r47 : Nat) : Int), 0, 0, 0, 0, 0] := U72 _ _ _ _ U63
    refine j_pu (np := 37) (w := ((r65 : Nat) : Int)) rfl rfl I68 U76 (Nat.ble_eq.mp rfl) rfl ?_
    intro m77 I78 F79 W80 U81
    have F82 : Fr l_14p_3 5 358 g μ m77 := F74.t3 E75 F79 rfl
    have U81 : UC g66 m77 r5 2 8 [((r12 : Nat) : Int), ((r29 : Nat) : Int), ((r47 : Nat) : Int), ((r65 : Nat) : Int), 0, 0, 0, 0] := U81
    refine w_t (np := 38) (l2 := [some (eR r5)]) (s2 := [eR r5]) rfl (s_an rfl (by have := U81.2.1; omega)) rfl ?_
    refine j_no (np := 41) (n := 3) rfl rfl rfl I78 ?_
    intro r83 m84 I85 F86 U87 O88
    have F89 : Fr l_14p_3 6 361 g μ m84 := F82.t3 E75 F86 rfl
    have U90 := (O88 _ _ _ _ U81).1
    have U90n := (O88 _ _ _ _ U81).2
    have U87 : UC g66 m84 r83 3 3 [0, 0, 0] := U87
    refine w_t (np := 42) (l2 := [some (eR r5)]) (s2 := [eR r83, eR r83, eR r5]) rfl rfl rfl ?_
    refine v_ci (np := 45) (as := []) (lv' := [some (eR r83)]) (rest := [eR r83, eR r5]) rfl rfl rfl (Nat.ble_eq.mp rfl) rfl rfl rfl U87.2.1 rfl ?_
    refine w_t (np := 1) (l2 := [some (eR r83)]) (s2 := [eR r83]) rfl (s_an rfl (by have := U87.2.1; omega)) rfl ?_
    refine v_oi (np := 4) rfl rfl (by have := U87.2.1; omega) rfl ?_
    refine w_t (np := 5) (l2 := [some (eR r83)]) (s2 := [eR r83]) rfl (s_an rfl (by have := U87.2.1; omega)) rfl ?_
    refine w_t (np := 7) (l2 := [some (eR r83)]) (s2 := [eI (64), eR r83]) rfl rfl rfl ?_
    refine j_na (np := 9) (ρ := 13) (lo := -9223372036854775808) (hi := 9223372036854775807) rfl rfl I85 rfl (by decide) (by decide) (fun _ => rfl) (by decide) rfl ?_
    intro r91 g92 m93 I94 E95 b96 F97 U98 K99
    have F100 : Fr l_14p_3 7 425 g μ m93 := F89.t3 E75 F97 rfl
    have E101 := E75.t E95
    have U102 : UC g92 m93 r5 2 8 [((r12 : Nat) : Int), ((r29 : Nat) : Int), ((r47 : Nat) : Int), ((r65 : Nat) : Int), 0, 0, 0, 0] := U98 _ _ _ _ U90
    have U103 : UC g92 m93 r83 3 3 [0, 0, 0] := U98 _ _ _ _ U87
    refine j_pu (np := 12) (w := ((r91 : Nat) : Int)) rfl rfl I94 U103 (Nat.ble_eq.mp rfl) rfl ?_
    intro m104 I105 F106 W107 U108
    have F109 : Fr l_14p_3 7 425 g μ m104 := F100.t3 E101 F106 rfl
    have U108 : UC g92 m104 r83 3 3 [((r91 : Nat) : Int), 0, 0] := U108
    have U110 : UC g92 m104 r5 2 8 [((r12 : Nat) : Int), ((r29 : Nat) : Int), ((r47 : Nat) : Int), ((r65 : Nat) : Int), 0, 0, 0, 0] := U102.o W107 (fun z => U90n z.symm)
    refine w_t (np := 13) (l2 := [some (eR r83)]) (s2 := [eR r83]) rfl (s_an rfl (by have := U108.2.1; omega)) rfl ?_
    refine w_t (np := 16) (l2 := [some (eR r83)]) (s2 := [eI (128), eR r83]) rfl rfl rfl ?_
    refine j_na (np := 18) (ρ := 14) (lo := 0) (hi := 64) rfl rfl I105 rfl (by decide) (by decide) (fun _ => rfl) (by decide) rfl ?_
    intro r111 g112 m113 I114 E115 b116 F117 U118 K119
    have F120 : Fr l_14p_3 8 553 g μ m113 := F109.t3 E101 F117 rfl
    have E121 := E101.t E115
    have U122 : UC g112 m113 r5 2 8 [((r12 : Nat) : Int), ((r29 : Nat) : Int), ((r47 : Nat) : Int), ((r65 : Nat) : Int), 0, 0, 0, 0] := U118 _ _ _ _ U110
    have U123 : UC g112 m113 r83 3 3 [((r91 : Nat) : Int), 0, 0] := U118 _ _ _ _ U108
    refine j_pu (np := 21) (w := ((r111 : Nat) : Int)) rfl rfl I114 U123 (Nat.ble_eq.mp rfl) rfl ?_
    intro m124 I125 F126 W127 U128
    have F129 : Fr l_14p_3 8 553 g μ m124 := F120.t3 E121 F126 rfl
    have U128 : UC g112 m124 r83 3 3 [((r91 : Nat) : Int), ((r111 : Nat) : Int), 0] := U128
    have U130 : UC g112 m124 r5 2 8 [((r12 : Nat) : Int), ((r29 : Nat) : Int), ((r47 : Nat) : Int), ((r65 : Nat) : Int), 0, 0, 0, 0] := U122.o W127 (fun z => U90n z.symm)
    refine v_rv rfl rfl ?_
    show ex_q (dt_fg L ρ) rc (d + 2, (16, 45, [some (eR r5)], [eR r83, eR r5]), (14, 14, [some (eR a0), some (eI (3)), none, none], [eR r5]) :: f :: F, m124)
    obtain ⟨g131, I132, E133, b134, X135⟩ := U128.pb2 (ρ := 12) I125 (by decide) (by decide) rfl (fun k hk => match k, hk with
      | 0, _ => hO_r (b := r91) rfl (by rw [(E115.g b96 (by decide))]; rfl) (fun q => absurd q (by rw [(E115.g b96 (by decide))]; decide))
      | 1, _ => hO_r (b := r111) rfl (by rw [b116]; rfl) (fun q => absurd q (by rw [b116]; decide))
      | 2, _ => hO_i (x := 0) (lo := 0) (hi := 64) rfl (by decide)
      | k + 3, hk => absurd hk (by omega))
    have E136 := E121.t E133
    have U137 : UC g131 m124 r5 2 8 [((r12 : Nat) : Int), ((r29 : Nat) : Int), ((r47 : Nat) : Int), ((r65 : Nat) : Int), 0, 0, 0, 0] := U130.ge (a := r83) (ρ := 0) X135 U90n
    refine j_pu (np := 48) (w := ((r83 : Nat) : Int)) rfl rfl I132 U137 (Nat.ble_eq.mp rfl) rfl ?_
    intro m138 I139 F140 W141 U142
    have F143 : Fr l_14p_3 8 553 g μ m138 := F129.t3 E136 F140 rfl
    have U142 : UC g131 m138 r5 2 8 [((r12 : Nat) : Int), ((r29 : Nat) : Int), ((r47 : Nat) : Int), ((r65 : Nat) : Int), ((r83 : Nat) : Int), 0, 0, 0] := U142
    refine v_rv rfl rfl ?_
    show ex_q (dt_fg L ρ) rc (d + 3, (14, 14, [some (eR a0), some (eI (3)), none, none], [eR r5]), f :: F, m138)
    obtain ⟨g144, I145, E146, b147⟩ := U142.pb (ρ := 2) I139 (by decide) (by decide) rfl (fun k hk => match k, hk with
      | 0, _ => hO_r (b := r12) rfl (by rw [(E133.g (E115.g (E95.g (E69.g (E51.g (E33.g b17 (by decide)) (by decide)) (by decide)) (by decide)) (by decide)) (by decide))]; rfl) (fun q => absurd q (by rw [(E133.g (E115.g (E95.g (E69.g (E51.g (E33.g b17 (by decide)) (by decide)) (by decide)) (by decide)) (by decide)) (by decide))]; decide))
      | 1, _ => hO_r (b := r29) rfl (by rw [(E133.g (E115.g (E95.g (E69.g (E51.g b34 (by decide)) (by decide)) (by decide)) (by decide)) (by decide))]; rfl) (fun q => absurd q (by rw [(E133.g (E115.g (E95.g (E69.g (E51.g b34 (by decide)) (by decide)) (by decide)) (by decide)) (by decide))]; decide))
      | 2, _ => hO_r (b := r47) rfl (by rw [(E133.g (E115.g (E95.g (E69.g b52 (by decide)) (by decide)) (by decide)) (by decide))]; rfl) (fun q => absurd q (by rw [(E133.g (E115.g (E95.g (E69.g b52 (by decide)) (by decide)) (by decide)) (by decide))]; decide))
      | 3, _ => hO_r (b := r65) rfl (by rw [(E133.g (E115.g (E95.g b70 (by decide)) (by decide)) (by decide))]; rfl) (fun q => absurd q (by rw [(E133.g (E115.g (E95.g b70 (by decide)) (by decide)) (by decide))]; decide))
      | 4, _ => hO_r (b := r83) rfl (by rw [b134]; rfl) (fun q => absurd q (by rw [b134]; decide))
      | 5, _ => hO_i (x := 0) (lo := 0) (hi := 3) rfl (by decide)
      | 6, _ => hO_i (x := 0) (lo := 0) (hi := 5) rfl (by decide)
      | 7, _ => hO_i (x := 0) (lo := 0) (hi := 50) rfl (by decide)
      | k + 8, hk => absurd hk (by omega))
    have E149 := E136.t E146
    refine w_t (np := 15) (l2 := [some (eR a0), some (eI (3)), some (eR r5), none]) (s2 := []) rfl (s_sn (Nat.ble_eq.mp rfl) (pos_g I145 b147 (by decide)) rfl) rfl ?_
    refine w_t (np := 16) (l2 := [some (eR a0), some (eI (3)), some (eR r5), none]) (s2 := [eR a0]) rfl (s_an rfl (pos_g I145 (E146.g (E133.g (E115.g (E95.g (E69.g (E51.g (E33.g (E16.g gA0 (by decide)) (by decide)) (by decide)) (by decide)) (by decide)) (by decide)) (by decide)) (by decide)) (by decide))) rfl ?_
    refine j_no (np := 19) (n := 10) rfl rfl rfl I145 ?_
    intro r150 m151 I152 F153 U154 O155
    have F156 : Fr l_14p_3 9 563 g μ m151 := F143.t3 E149 F153 rfl
    have U154 : UC g144 m151 r150 0 10 [0, 0, 0, 0, 0, 0, 0, 0, 0, 0] := U154
    refine w_t (np := 20) (l2 := [some (eR a0), some (eI (3)), some (eR r5), none]) (s2 := [eR r150, eR r150, eR a0]) rfl rfl rfl ?_
    refine w_t (np := 21) (l2 := [some (eR a0), some (eI (3)), some (eR r5), none]) (s2 := [eR r5, eR r150, eR r150, eR a0]) rfl (s_an rfl (pos_g I152 b147 (by decide))) rfl ?_
    refine j_no (np := 24) (n := 15) rfl rfl rfl I152 ?_
    intro r157 m158 I159 F160 U161 O162
    have F163 : Fr l_14p_3 10 578 g μ m158 := F156.t3 E149 F160 rfl
    have U164 := (O162 _ _ _ _ U154).1
    have U164n := (O162 _ _ _ _ U154).2
    have U161 : UC g144 m158 r157 8 15 [0, 0, 0, 0, 0, 0, 0, 0, 0, 0, 0, 0, 0, 0, 0] := U161
    refine w_t (np := 25) (l2 := [some (eR a0), some (eI (3)), some (eR r5), none]) (s2 := [eR r157, eR r157, eR r5, eR r150, eR r150, eR a0]) rfl rfl rfl ?_
    refine w_t (np := 26) (l2 := [some (eR a0), some (eI (3)), some (eR r5), none]) (s2 := [eR r5, eR r157, eR r157, eR r5, eR r150, eR r150, eR a0]) rfl (s_an rfl (pos_g I159 b147 (by decide))) rfl ?_
    refine v_ci (np := 29) (as := [eR r5]) (lv' := [some (eR r157), some (eR r5)]) (rest := [eR r157, eR r5, eR r150, eR r150, eR a0]) rfl rfl rfl (Nat.ble_eq.mp rfl) rfl rfl rfl U161.2.1 rfl ?_
    refine w_t (np := 1) (l2 := [some (eR r157), some (eR r5)]) (s2 := [eR r157]) rfl (s_an rfl (by have := U161.2.1; omega)) rfl ?_
    refine v_oi (np := 4) rfl rfl (by have := U161.2.1; omega) rfl ?_
    refine w_t (np := 5) (l2 := [some (eR r157), some (eR r5)]) (s2 := [eR r157]) rfl (s_an rfl (by have := U161.2.1; omega)) rfl ?_
    refine w_t (np := 6) (l2 := [some (eR r157), some (eR r5)]) (s2 := [eR r5, eR r157]) rfl (s_an rfl (pos_g I159 b147 (by decide))) rfl ?_
    refine j_pu (np := 9) (w := ((r5 : Nat) : Int)) rfl rfl I159 U161 (Nat.ble_eq.mp rfl) rfl ?_
    intro m165 I166 F167 W168 U169
    have F170 : Fr l_14p_3 10 578 g μ m165 := F163.t3 E149 F167 rfl
    have U169 : UC g144 m165 r157 8 15 [0, 0, 0, 0, 0, 0, ((r5 : Nat) : Int), 0, 0, 0, 0, 0, 0, 0, 0] := U169
    have U171 : UC g144 m165 r150 0 10 [0, 0, 0, 0, 0, 0, 0, 0, 0, 0] := U164.o W168 (fun z => U164n z.symm)
    refine w_t (np := 10) (l2 := [some (eR r157), some (eR r5)]) (s2 := [eR r157]) rfl (s_an rfl (by have := U169.2.1; omega)) rfl ?_
    refine w_t (np := 13) (l2 := [some (eR r157), some (eR r5)]) (s2 := [eI (2670), eR r157]) rfl rfl rfl ?_
    refine j_na (np := 15) (ρ := 36) (lo := -1) (hi := 2669) rfl rfl I166 rfl (by decide) (by decide) (fun _ => rfl) (by decide) rfl ?_
    intro r172 g173 m174 I175 E176 b177 F178 U179 K180
    have F181 : Fr l_14p_3 11 3248 g μ m174 := F170.t3 E149 F178 rfl
    have E182 := E149.t E176
    have U183 : UC g173 m174 r150 0 10 [0, 0, 0, 0, 0, 0, 0, 0, 0, 0] := U179 _ _ _ _ U171
    have U184 : UC g173 m174 r157 8 15 [0, 0, 0, 0, 0, 0, ((r5 : Nat) : Int), 0, 0, 0, 0, 0, 0, 0, 0] := U179 _ _ _ _ U169
    refine j_pu (np := 18) (w := ((r172 : Nat) : Int)) rfl rfl I175 U184 (Nat.ble_eq.mp rfl) rfl ?_
    intro m185 I186 F187 W188 U189
    have F190 : Fr l_14p_3 11 3248 g μ m185 := F181.t3 E182 F187 rfl
    have U189 : UC g173 m185 r157 8 15 [((r172 : Nat) : Int), 0, 0, 0, 0, 0, ((r5 : Nat) : Int), 0, 0, 0, 0, 0, 0, 0, 0] := U189
    have U191 : UC g173 m185 r150 0 10 [0, 0, 0, 0, 0, 0, 0, 0, 0, 0] := U183.o W188 (fun z => U164n z.symm)
    refine w_t (np := 19) (l2 := [some (eR r157), some (eR r5)]) (s2 := [eR r157]) rfl (s_an rfl (by have := U189.2.1; omega)) rfl ?_
    refine w_t (np := 22) (l2 := [some (eR r157), some (eR r5)]) (s2 := [eI (512), eR r157]) rfl rfl rfl ?_
    refine j_na (np := 24) (ρ := 37) (lo := -1) (hi := 2669) rfl rfl I186 rfl (by decide) (by decide) (fun _ => rfl) (by decide) rfl ?_
    intro r192 g193 m194 I195 E196 b197 F198 U199 K200
    have F201 : Fr l_14p_3 12 3760 g μ m194 := F190.t3 E182 F198 rfl
    have E202 := E182.t E196
    have U203 : UC g193 m194 r150 0 10 [0, 0, 0, 0, 0, 0, 0, 0, 0, 0] := U199 _ _ _ _ U191
    have U204 : UC g193 m194 r157 8 15 [((r172 : Nat) : Int), 0, 0, 0, 0, 0, ((r5 : Nat) : Int), 0, 0, 0, 0, 0, 0, 0, 0] := U199 _ _ _ _ U189
    refine j_pu (np := 27) (w := ((r192 : Nat) : Int)) rfl rfl I195 U204 (Nat.ble_eq.mp rfl) rfl ?_
    intro m205 I206 F207 W208 U209
    have F210 : Fr l_14p_3 12 3760 g μ m205 := F201.t3 E202 F207 rfl
    have U209 : UC g193 m205 r157 8 15 [((r172 : Nat) : Int), ((r192 : Nat) : Int), 0, 0, 0, 0, ((r5 : Nat) : Int), 0, 0, 0, 0, 0, 0, 0, 0] := U209
    have U211 : UC g193 m205 r150 0 10 [0, 0, 0, 0, 0, 0, 0, 0, 0, 0] := U203.o W208 (fun z => U164n z.symm)
    refine w_t (np := 28) (l2 := [some (eR r157), some (eR r5)]) (s2 := [eR r157]) rfl (s_an rfl (by have := U209.2.1; omega)) rfl ?_
    refine w_t (np := 31) (l2 := [some (eR r157), some (eR r5)]) (s2 := [eI (2670), eR r157]) rfl rfl rfl ?_
    refine j_na (np := 33) (ρ := 38) (lo := -1) (hi := 2669) rfl rfl I206 rfl (by decide) (by decide) (fun _ => rfl) (by decide) rfl ?_
    intro r212 g213 m214 I215 E216 b217 F218 U219 K220
    have F221 : Fr l_14p_3 13 6430 g μ m214 := F210.t3 E202 F218 rfl
    have E222 := E202.t E216
    have U223 : UC g213 m214 r150 0 10 [0, 0, 0, 0, 0, 0, 0, 0, 0, 0] := U219 _ _ _ _ U211
    have U224 : UC g213 m214 r157 8 15 [((r172 : Nat) : Int), ((r192 : Nat) : Int), 0, 0, 0, 0, ((r5 : Nat) : Int), 0, 0, 0, 0, 0, 0, 0, 0] := U219 _ _ _ _ U209
    refine j_pu (np := 36) (w := ((r212 : Nat) : Int)) rfl rfl I215 U224 (Nat.ble_eq.mp rfl) rfl ?_
    intro m225 I226 F227 W228 U229
    have F230 : Fr l_14p_3 13 6430 g μ m225 := F221.t3 E222 F227 rfl
    have U229 : UC g213 m225 r157 8 15 [((r172 : Nat) : Int), ((r192 : Nat) : Int), ((r212 : Nat) : Int), 0, 0, 0, ((r5 : Nat) : Int), 0, 0, 0, 0, 0, 0, 0, 0] := U229
    have U231 : UC g213 m225 r150 0 10 [0, 0, 0, 0, 0, 0, 0, 0, 0, 0] := U223.o W228 (fun z => U164n z.symm)
    refine w_t (np := 37) (l2 := [some (eR r157), some (eR r5)]) (s2 := [eR r157]) rfl (s_an rfl (by have := U229.2.1; omega)) rfl ?_
    refine w_t (np := 40) (l2 := [some (eR r157), some (eR r5)]) (s2 := [eI (890), eR r157]) rfl rfl rfl ?_
    refine j_na (np := 42) (ρ := 39) (lo := -2147483648) (hi := 2147483647) rfl rfl I226 rfl (by decide) (by decide) (fun _ => rfl) (by decide) rfl ?_
    intro r232 g233 m234 I235 E236 b237 F238 U239 K240
    have F241 : Fr l_14p_3 14 7320 g μ m234 := F230.t3 E222 F238 rfl
    have E242 := E222.t E236
    have U243 : UC g233 m234 r150 0 10 [0, 0, 0, 0, 0, 0, 0, 0, 0, 0] := U239 _ _ _ _ U231
    have U244 : UC g233 m234 r157 8 15 [((r172 : Nat) : Int), ((r192 : Nat) : Int), ((r212 : Nat) : Int), 0, 0, 0, ((r5 : Nat) : Int), 0, 0, 0, 0, 0, 0, 0, 0] := U239 _ _ _ _ U229
    refine j_pu (np := 45) (w := ((r232 : Nat) : Int)) rfl rfl I235 U244 (Nat.ble_eq.mp rfl) rfl ?_
    intro m245 I246 F247 W248 U249
    have F250 : Fr l_14p_3 14 7320 g μ m245 := F241.t3 E242 F247 rfl
    have U249 : UC g233 m245 r157 8 15 [((r172 : Nat) : Int), ((r192 : Nat) : Int), ((r212 : Nat) : Int), ((r232 : Nat) : Int), 0, 0, ((r5 : Nat) : Int), 0, 0, 0, 0, 0, 0, 0, 0] := U249
    have U251 : UC g233 m245 r150 0 10 [0, 0, 0, 0, 0, 0, 0, 0, 0, 0] := U243.o W248 (fun z => U164n z.symm)
    refine w_t (np := 46) (l2 := [some (eR r157), some (eR r5)]) (s2 := [eR r157]) rfl (s_an rfl (by have := U249.2.1; omega)) rfl ?_
    refine w_t (np := 49) (l2 := [some (eR r157), some (eR r5)]) (s2 := [eI (890), eR r157]) rfl rfl rfl ?_
    refine j_na (np := 51) (ρ := 40) (lo := 0) (hi := 889) rfl rfl I246 rfl (by decide) (by decide) (fun _ => rfl) (by decide) rfl ?_
    intro r252 g253 m254 I255 E256 b257 F258 U259 K260
    have F261 : Fr l_14p_3 15 8210 g μ m254 := F250.t3 E242 F258 rfl
    have E262 := E242.t E256
    have U263 : UC g253 m254 r150 0 10 [0, 0, 0, 0, 0, 0, 0, 0, 0, 0] := U259 _ _ _ _ U251
    have U264 : UC g253 m254 r157 8 15 [((r172 : Nat) : Int), ((r192 : Nat) : Int), ((r212 : Nat) : Int), ((r232 : Nat) : Int), 0, 0, ((r5 : Nat) : Int), 0, 0, 0, 0, 0, 0, 0, 0] := U259 _ _ _ _ U249
    refine j_pu (np := 54) (w := ((r252 : Nat) : Int)) rfl rfl I255 U264 (Nat.ble_eq.mp rfl) rfl ?_
    intro m265 I266 F267 W268 U269
    have F270 : Fr l_14p_3 15 8210 g μ m265 := F261.t3 E262 F267 rfl
    have U269 : UC g253 m265 r157 8 15 [((r172 : Nat) : Int), ((r192 : Nat) : Int), ((r212 : Nat) : Int), ((r232 : Nat) : Int), ((r252 : Nat) : Int), 0, ((r5 : Nat) : Int), 0, 0, 0, 0, 0, 0, 0, 0] := U269
    have U271 : UC g253 m265 r150 0 10 [0, 0, 0, 0, 0, 0, 0, 0, 0, 0] := U263.o W268 (fun z => U164n z.symm)
    refine w_t (np := 55) (l2 := [some (eR r157), some (eR r5)]) (s2 := [eR r157]) rfl (s_an rfl (by have := U269.2.1; omega)) rfl ?_
    refine w_t (np := 58) (l2 := [some (eR r157), some (eR r5)]) (s2 := [eI (512), eR r157]) rfl rfl rfl ?_
    refine j_na (np := 60) (ρ := 41) (lo := -1) (hi := 511) rfl rfl I266 rfl (by decide) (by decide) (fun _ => rfl) (by decide) rfl ?_
    intro r272 g273 m274 I275 E276 b277 F278 U279 K280
    have F281 : Fr l_14p_3 16 8722 g μ m274 := F270.t3 E262 F278 rfl
    have E282 := E262.t E276
    have U283 : UC g273 m274 r150 0 10 [0, 0, 0, 0, 0, 0, 0, 0, 0, 0] := U279 _ _ _ _ U271
    have U284 : UC g273 m274 r157 8 15 [((r172 : Nat) : Int), ((r192 : Nat) : Int), ((r212 : Nat) : Int), ((r232 : Nat) : Int), ((r252 : Nat) : Int), 0, ((r5 : Nat) : Int), 0, 0, 0, 0, 0, 0, 0, 0] := U279 _ _ _ _ U269
    refine j_pu (np := 63) (w := ((r272 : Nat) : Int)) rfl rfl I275 U284 (Nat.ble_eq.mp rfl) rfl ?_
    intro m285 I286 F287 W288 U289
    have F290 : Fr l_14p_3 16 8722 g μ m285 := F281.t3 E282 F287 rfl
    have U289 : UC g273 m285 r157 8 15 [((r172 : Nat) : Int), ((r192 : Nat) : Int), ((r212 : Nat) : Int), ((r232 : Nat) : Int), ((r252 : Nat) : Int), ((r272 : Nat) : Int), ((r5 : Nat) : Int), 0, 0, 0, 0, 0, 0, 0, 0] := U289
    have U291 : UC g273 m285 r150 0 10 [0, 0, 0, 0, 0, 0, 0, 0, 0, 0] := U283.o W288 (fun z => U164n z.symm)
    refine v_rv rfl rfl ?_
    show ex_q (dt_fg L ρ) rc (d + 3, (14, 29, [some (eR a0), some (eI (3)), some (eR r5), none], [eR r157, eR r5, eR r150, eR r150, eR a0]), f :: F, m285)
    obtain ⟨g292, I293, E294, b295, X296⟩ := U289.pb2 (ρ := 35) I286 (by decide) (by decide) rfl (fun k hk => match k, hk with
      | 0, _ => hO_r (b := r172) rfl (by rw [(E276.g (E256.g (E236.g (E216.g (E196.g b177 (by decide)) (by decide)) (by decide)) (by decide)) (by decide))]; rfl) (fun q => absurd q (by rw [(E276.g (E256.g (E236.g (E216.g (E196.g b177 (by decide)) (by decide)) (by decide)) (by decide)) (by decide))]; decide))
      | 1, _ => hO_r (b := r192) rfl (by rw [(E276.g (E256.g (E236.g (E216.g b197 (by decide)) (by decide)) (by decide)) (by decide))]; rfl) (fun q => absurd q (by rw [(E276.g (E256.g (E236.g (E216.g b197 (by decide)) (by decide)) (by decide)) (by decide))]; decide))
      | 2, _ => hO_r (b := r212) rfl (by rw [(E276.g (E256.g (E236.g b217 (by decide)) (by decide)) (by decide))]; rfl) (fun q => absurd q (by rw [(E276.g (E256.g (E236.g b217 (by decide)) (by decide)) (by decide))]; decide))
      | 3, _ => hO_r (b := r232) rfl (by rw [(E276.g (E256.g b237 (by decide)) (by decide))]; rfl) (fun q => absurd q (by rw [(E276.g (E256.g b237 (by decide)) (by decide))]; decide))
      | 4, _ => hO_r (b := r252) rfl (by rw [(E276.g b257 (by decide))]; rfl) (fun q => absurd q (by rw [(E276.g b257 (by decide))]; decide))
      | 5, _ => hO_r (b := r272) rfl (by rw [b277]; rfl) (fun q => absurd q (by rw [b277]; decide))
      | 6, _ => hO_r (b := r5) rfl (by rw [(E276.g (E256.g (E236.g (E216.g (E196.g (E176.g b147 (by decide)) (by decide)) (by decide)) (by decide)) (by decide)) (by decide))]; rfl) (fun q => absurd q (by rw [(E276.g (E256.g (E236.g (E216.g (E196.g (E176.g b147 (by decide)) (by decide)) (by decide)) (by decide)) (by decide)) (by decide))]; decide))
      | 7, _ => hO_i (x := 0) (lo := -2147483648) (hi := 2147483647) rfl (by decide)
      | 8, _ => hO_i (x := 0) (lo := -2147483648) (hi := 2147483647) rfl (by decide)
      | 9, _ => hO_i (x := 0) (lo := -2147483648) (hi := 2147483647) rfl (by decide)
      | 10, _ => hO_i (x := 0) (lo := -2147483648) (hi := 2147483647) rfl (by decide)
      | 11, _ => hO_i (x := 0) (lo := -2147483648) (hi := 2147483647) rfl (by decide)
      | 12, _ => hO_i (x := 0) (lo := -2147483648) (hi := 2147483647) rfl (by decide)
      | 13, _ => hO_i (x := 0) (lo := -2147483648) (hi := 2147483647) rfl (by decide)
      | 14, _ => hO_i (x := 0) (lo := -2147483648) (hi := 2147483647) rfl (by decide)
      | k + 15, hk => absurd hk (by omega))
    have E297 := E282.t E294
    have U298 : UC g292 m285 r150 0 10 [0, 0, 0, 0, 0, 0, 0, 0, 0, 0] := U291.ge (a := r157) (ρ := 0) X296 U164n
    refine v_ci (np := 32) (as := [eR r5, eR r157]) (lv' := [some (eR r150), some (eR r5), some (eR r157)]) (rest := [eR r150, eR a0]) rfl rfl rfl (Nat.ble_eq.mp rfl) rfl rfl rfl U298.2.1 rfl ?_
    refine w_t (np := 1) (l2 := [some (eR r150), some (eR r5), some (eR r157)]) (s2 := [eR r150]) rfl (s_an rfl (by have := U298.2.1; omega)) rfl ?_
    refine v_oi (np := 4) rfl rfl (by have := U298.2.1; omega) rfl ?_
    refine w_t (np := 5) (l2 := [some (eR r150), some (eR r5), some (eR r157)]) (s2 := [eR r150]) rfl (s_an rfl (by have := U298.2.1; omega)) rfl ?_
    refine w_t (np := 6) (l2 := [some (eR r150), some (eR r5), some (eR r157)]) (s2 := [eR r5, eR r150]) rfl (s_an rfl (pos_g I293 (E294.g (E276.g (E256.g (E236.g (E216.g (E196.g (E176.g b147 (by decide)) (by decide)) (by decide)) (by decide)) (by decide)) (by decide)) (by decide)) (by decide))) rfl ?_
    refine j_pu (np := 9) (w := ((r5 : Nat) : Int)) rfl rfl I293 U298 (Nat.ble_eq.mp rfl) rfl ?_
    intro m299 I300 F301 W302 U303
    have F304 : Fr l_14p_3 16 8722 g μ m299 := F290.t3 E297 F301 rfl
    have U303 : UC g292 m299 r150 0 10 [0, 0, 0, 0, 0, ((r5 : Nat) : Int), 0, 0, 0, 0] := U303
    refine w_t (np := 10) (l2 := [some (eR r150), some (eR r5), some (eR r157)]) (s2 := [eR r150]) rfl (s_an rfl (by have := U303.2.1; omega)) rfl ?_
    refine w_t (np := 11) (l2 := [some (eR r150), some (eR r5), some (eR r157)]) (s2 := [eR r157, eR r150]) rfl (s_an rfl (pos_g I300 b295 (by decide))) rfl ?_
    refine j_pu (np := 14) (w := ((r157 : Nat) : Int)) rfl rfl I300 U303 (Nat.ble_eq.mp rfl) rfl ?_
    intro m305 I306 F307 W308 U309
    have F310 : Fr l_14p_3 16 8722 g μ m305 := F304.t3 E297 F307 rfl
    have U309 : UC g292 m305 r150 0 10 [0, 0, 0, 0, 0, ((r5 : Nat) : Int), ((r157 : Nat) : Int), 0, 0, 0] := U309
    refine w_t (np := 15) (l2 := [some (eR r150), some (eR r5), some (eR r157)]) (s2 := [eR r150]) rfl (s_an rfl (by have := U309.2.1; omega)) rfl ?_
    refine w_t (np := 18) (l2 := [some (eR r150), some (eR r5), some (eR r157)]) (s2 := [eI (512), eR r150]) rfl rfl rfl ?_
    refine j_na (np := 20) (ρ := 43) (lo := -2147483648) (hi := 2147483647) rfl rfl I306 rfl (by decide) (by decide) (fun _ => rfl) (by decide) rfl ?_
    intro r311 g312 m313 I314 E315 b316 F317 U318 K319
    have F320 : Fr l_14p_3 17 9234 g μ m313 := F310.t3 E297 F317 rfl
    have E321 := E297.t E315
    have U322 : UC g312 m313 r150 0 10 [0, 0, 0, 0, 0, ((r5 : Nat) : Int), ((r157 : Nat) : Int), 0, 0, 0] := U318 _ _ _ _ U309
    refine j_pu (np := 23) (w := ((r311 : Nat) : Int)) rfl rfl I314 U322 (Nat.ble_eq.mp rfl) rfl ?_
    intro m323 I324 F325 W326 U327
    have F328 : Fr l_14p_3 17 9234 g μ m323 := F320.t3 E321 F325 rfl
    have U327 : UC g312 m323 r150 0 10 [((r311 : Nat) : Int), 0, 0, 0, 0, ((r5 : Nat) : Int), ((r157 : Nat) : Int), 0, 0, 0] := U327
    refine w_t (np := 24) (l2 := [some (eR r150), some (eR r5), some (eR r157)]) (s2 := [eR r150]) rfl (s_an rfl (by have := U327.2.1; omega)) rfl ?_
    refine w_t (np := 27) (l2 := [some (eR r150), some (eR r5), some (eR r157)]) (s2 := [eI (512), eR r150]) rfl rfl rfl ?_
    refine j_na (np := 29) (ρ := 44) (lo := -9223372036854775808) (hi := 9223372036854775807) rfl rfl I324 rfl (by decide) (by decide) (fun _ => rfl) (by decide) rfl ?_
    intro r329 g330 m331 I332 E333 b334 F335 U336 K337
    have F338 : Fr l_14p_3 18 9746 g μ m331 := F328.t3 E321 F335 rfl
    have E339 := E321.t E333
    have U340 : UC g330 m331 r150 0 10 [((r311 : Nat) : Int), 0, 0, 0, 0, ((r5 : Nat) : Int), ((r157 : Nat) : Int), 0, 0, 0] := U336 _ _ _ _ U327
    refine j_pu (np := 32) (w := ((r329 : Nat) : Int)) rfl rfl I332 U340 (Nat.ble_eq.mp rfl) rfl ?_
    intro m341 I342 F343 W344 U345
    have F346 : Fr l_14p_3 18 9746 g μ m341 := F338.t3 E339 F343 rfl
    have U345 : UC g330 m341 r150 0 10 [((r311 : Nat) : Int), ((r329 : Nat) : Int), 0, 0, 0, ((r5 : Nat) : Int), ((r157 : Nat) : Int), 0, 0, 0] := U345
    refine w_t (np := 33) (l2 := [some (eR r150), some (eR r5), some (eR r157)]) (s2 := [eR r150]) rfl (s_an rfl (by have := U345.2.1; omega)) rfl ?_
    refine w_t (np := 36) (l2 := [some (eR r150), some (eR r5), some (eR r157)]) (s2 := [eI (512), eR r150]) rfl rfl rfl ?_
    refine j_na (np := 38) (ρ := 45) (lo := 0) (hi := 1) rfl rfl I342 rfl (by decide) (by decide) (fun _ => rfl) (by decide) rfl ?_
    intro r347 g348 m349 I350 E351 b352 F353 U354 K355
    have F356 : Fr l_14p_3 19 10258 g μ m349 := F346.t3 E339 F353 rfl
    have E357 := E339.t E351
    have U358 : UC g348 m349 r150 0 10 [((r311 : Nat) : Int), ((r329 : Nat) : Int), 0, 0, 0, ((r5 : Nat) : Int), ((r157 : Nat) : Int), 0, 0, 0] := U354 _ _ _ _ U345
    refine j_pu (np := 41) (w := ((r347 : Nat) : Int)) rfl rfl I350 U358 (Nat.ble_eq.mp rfl) rfl ?_
    intro m359 I360 F361 W362 U363
    have F364 : Fr l_14p_3 19 10258 g μ m359 := F356.t3 E357 F361 rfl
    have U363 : UC g348 m359 r150 0 10 [((r311 : Nat) : Int), ((r329 : Nat) : Int), ((r347 : Nat) : Int), 0, 0, ((r5 : Nat) : Int), ((r157 : Nat) : Int), 0, 0, 0] := U363
    refine w_t (np := 42) (l2 := [some (eR r150), some (eR r5), some (eR r157)]) (s2 := [eR r150]) rfl (s_an rfl (by have := U363.2.1; omega)) rfl ?_
    refine w_t (np := 45) (l2 := [some (eR r150), some (eR r5), some (eR r157)]) (s2 := [eI (512), eR r150]) rfl rfl rfl ?_
    refine j_na (np := 47) (ρ := 46) (lo := -2147483648) (hi := 2147483647) rfl rfl I360 rfl (by decide) (by decide) (fun _ => rfl) (by decide) rfl ?_
    intro r365 g366 m367 I368 E369 b370 F371 U372 K373
    have F374 : Fr l_14p_3 20 10770 g μ m367 := F364.t3 E357 F371 rfl
    have E375 := E357.t E369
    have U376 : UC g366 m367 r150 0 10 [((r311 : Nat) : Int), ((r329 : Nat) : Int), ((r347 : Nat) : Int), 0, 0, ((r5 : Nat) : Int), ((r157 : Nat) : Int), 0, 0, 0] := U372 _ _ _ _ U363
    refine j_pu (np := 50) (w := ((r365 : Nat) : Int)) rfl rfl I368 U376 (Nat.ble_eq.mp rfl) rfl ?_
    intro m377 I378 F379 W380 U381
    have F382 : Fr l_14p_3 20 10770 g μ m377 := F374.t3 E375 F379 rfl
    have U381 : UC g366 m377 r150 0 10 [((r311 : Nat) : Int), ((r329 : Nat) : Int), ((r347 : Nat) : Int), ((r365 : Nat) : Int), 0, ((r5 : Nat) : Int), ((r157 : Nat) : Int), 0, 0, 0] := U381
    refine w_t (np := 51) (l2 := [some (eR r150), some (eR r5), some (eR r157)]) (s2 := [eR r150]) rfl (s_an rfl (by have := U381.2.1; omega)) rfl ?_
    refine w_t (np := 53) (l2 := [some (eR r150), some (eR r5), some (eR r157)]) (s2 := [eI (64), eR r150]) rfl rfl rfl ?_
    refine j_na (np := 55) (ρ := 47) (lo := -2147483648) (hi := 2147483647) rfl rfl I378 rfl (by decide) (by decide) (fun _ => rfl) (by decide) rfl ?_
    intro r383 g384 m385 I386 E387 b388 F389 U390 K391
    have F392 : Fr l_14p_3 21 10834 g μ m385 := F382.t3 E375 F389 rfl
    have E393 := E375.t E387
    have U394 : UC g384 m385 r150 0 10 [((r311 : Nat) : Int), ((r329 : Nat) : Int), ((r347 : Nat) : Int), ((r365 : Nat) : Int), 0, ((r5 : Nat) : Int), ((r157 : Nat) : Int), 0, 0, 0] := U390 _ _ _ _ U381
    refine j_pu (np := 58) (w := ((r383 : Nat) : Int)) rfl rfl I386 U394 (Nat.ble_eq.mp rfl) rfl ?_
    intro m395 I396 F397 W398 U399
    have F400 : Fr l_14p_3 21 10834 g μ m395 := F392.t3 E393 F397 rfl
    have U399 : UC g384 m395 r150 0 10 [((r311 : Nat) : Int), ((r329 : Nat) : Int), ((r347 : Nat) : Int), ((r365 : Nat) : Int), ((r383 : Nat) : Int), ((r5 : Nat) : Int), ((r157 : Nat) : Int), 0, 0, 0] := U399
    refine v_rv rfl rfl ?_
    show ex_q (dt_fg L ρ) rc (d + 3, (14, 32, [some (eR a0), some (eI (3)), some (eR r5), none], [eR r150, eR a0]), f :: F, m395)
    obtain ⟨g401, I402, E403, b404⟩ := U399.pb (ρ := 42) I396 (by decide) (by decide) rfl (fun k hk => match k, hk with
      | 0, _ => hO_r (b := r311) rfl (by rw [(E387.g (E369.g (E351.g (E333.g b316 (by decide)) (by decide)) (by decide)) (by decide))]; rfl) (fun q => absurd q (by rw [(E387.g (E369.g (E351.g (E333.g b316 (by decide)) (by decide)) (by decide)) (by decide))]; decide))
      | 1, _ => hO_r (b := r329) rfl (by rw [(E387.g (E369.g (E351.g b334 (by decide)) (by decide)) (by decide))]; rfl) (fun q => absurd q (by rw [(E387.g (E369.g (E351.g b334 (by decide)) (by decide)) (by decide))]; decide))
      | 2, _ => hO_r (b := r347) rfl (by rw [(E387.g (E369.g b352 (by decide)) (by decide))]; rfl) (fun q => absurd q (by rw [(E387.g (E369.g b352 (by decide)) (by decide))]; decide))
      | 3, _ => hO_r (b := r365) rfl (by rw [(E387.g b370 (by decide))]; rfl) (fun q => absurd q (by rw [(E387.g b370 (by decide))]; decide))
      | 4, _ => hO_r (b := r383) rfl (by rw [b388]; rfl) (fun q => absurd q (by rw [b388]; decide))
      | 5, _ => hO_r (b := r5) rfl (by rw [(E387.g (E369.g (E351.g (E333.g (E315.g (E294.g (E276.g (E256.g (E236.g (E216.g (E196.g (E176.g b147 (by decide)) (by decide)) (by decide)) (by decide)) (by decide)) (by decide)) (by decide)) (by decide)) (by decide)) (by decide)) (by decide)) (by decide))]; rfl) (fun q => absurd q (by rw [(E387.g (E369.g (E351.g (E333.g (E315.g (E294.g (E276.g (E256.g (E236.g (E216.g (E196.g (E176.g b147 (by decide)) (by decide)) (by decide)) (by decide)) (by decide)) (by decide)) (by decide)) (by decide)) (by decide)) (by decide)) (by decide)) (by decide))]; decide))
      | 6, _ => hO_r (b := r157) rfl (by rw [(E387.g (E369.g (E351.g (E333.g (E315.g b295 (by decide)) (by decide)) (by decide)) (by decide)) (by decide))]; rfl) (fun q => absurd q (by rw [(E387.g (E369.g (E351.g (E333.g (E315.g b295 (by decide)) (by decide)) (by decide)) (by decide)) (by decide))]; decide))
      | 7, _ => hO_i (x := 0) (lo := 0) (hi := 512) rfl (by decide)
      | 8, _ => hO_i (x := 0) (lo := -2147483648) (hi := 2147483647) rfl (by decide)
      | 9, _ => hO_i (x := 0) (lo := 0) (hi := 64) rfl (by decide)
      | k + 10, hk => absurd hk (by omega))
    have E406 := E393.t E403
    refine j_pf (np := 35) (w := ((r150 : Nat) : Int)) rfl rfl I402 (E403.g (E387.g (E369.g (E351.g (E333.g (E315.g (E294.g (E276.g (E256.g (E236.g (E216.g (E196.g (E176.g (E146.g (E133.g (E115.g (E95.g (E69.g (E51.g (E33.g (E16.g gA0 (by decide)) (by decide)) (by decide)) (by decide)) (by decide)) (by decide)) (by decide)) (by decide)) (by decide)) (by decide)) (by decide)) (by decide)) (by decide)) (by decide)) (by decide)) (by decide)) (by decide)) (by decide)) (by decide)) (by decide)) (by decide)) (by decide) (n := 4) rfl rfl (hO_r rfl (by rw [b404]; rfl) (fun q => absurd q (by rw [b404]; decide))) ?_
    intro m407 I408 W409
    have F410 : Fr l_14p_3 21 10834 g μ m407 := F400.w3 E406 W409 (E403.g (E387.g (E369.g (E351.g (E333.g (E315.g (E294.g (E276.g (E256.g (E236.g (E216.g (E196.g (E176.g (E146.g (E133.g (E115.g (E95.g (E69.g (E51.g (E33.g (E16.g gA0 (by decide)) (by decide)) (by decide)) (by decide)) (by decide)) (by decide)) (by decide)) (by decide)) (by decide)) (by decide)) (by decide)) (by decide)) (by decide)) (by decide)) (by decide)) (by decide)) (by decide)) (by decide)) (by decide)) (by decide)) (by decide)) rfl
    refine w_t (np := 36) (l2 := [some (eR a0), some (eI (3)), some (eR r5), none]) (s2 := [eR a0]) rfl (s_an rfl (pos_g I408 (E403.g (E387.g (E369.g (E351.g (E333.g (E315.g (E294.g (E276.g (E256.g (E236.g (E216.g (E196.g (E176.g (E146.g (E133.g (E115.g (E95.g (E69.g (E51.g (E33.g (E16.g gA0 (by decide)) (by decide)) (by decide)) (by decide)) (by decide)) (by decide)) (by decide)) (by decide)) (by decide)) (by decide)) (by decide)) (by decide)) (by decide)) (by decide)) (by decide)) (by decide)) (by decide)) (by decide)) (by decide)) (by decide)) (by decide)) (by decide))) rfl ?_
    refine j_gr (np := 39) rfl rfl I408 (E403.g (E387.g (E369.g (E351.g (E333.g (E315.g (E294.g (E276.g (E256.g (E236.g (E216.g (E196.g (E176.g (E146.g (E133.g (E115.g (E95.g (E69.g (E51.g (E33.g (E16.g gA0 (by decide)) (by decide)) (by decide)) (by decide)) (by decide)) (by decide)) (by decide)) (by decide)) (by decide)) (by decide)) (by decide)) (by decide)) (by decide)) (by decide)) (by decide)) (by decide)) (by decide)) (by decide)) (by decide)) (by decide)) (by decide)) (by decide) (n := 4) rfl rfl rfl ?_
    intro v411 e412 b413 z414
    have b413 : g401 v411 = 51 := Nat.eq_of_beq_eq_true b413
    refine w_t (np := 40) (l2 := [some (eR a0), some (eI (3)), some (eR r5), none]) (s2 := [eI (3), eR v411]) rfl rfl rfl ?_
    refine w_t (np := 41) (l2 := [some (eR a0), some (eI (3)), some (eR r5), none]) (s2 := [eI (0), eI (3), eR v411]) rfl rfl rfl ?_
    refine j_as (np := 42) rfl rfl I408 b413 (by decide) (n := 4) rfl rfl (lo := -1) (hi := 64) (fun _ => rfl) (by decide) (by decide) (by decide) ?_
    intro m415 I416 W417
    have F418 : Fr l_14p_3 21 10834 g μ m415 := F410.v3 E406 W417 b413 rfl rfl
    exact K g401 m415 r150 v411 _ _ _ E406 I416 F418 (Or.inr ⟨e2, by decide, by decide⟩) b404 (W417.addr W409.at b413 (E403.g (E387.g (E369.g (E351.g (E333.g (E315.g (E294.g (E276.g (E256.g (E236.g (E216.g (E196.g (E176.g (E146.g (E133.g (E115.g (E95.g (E69.g (E51.g (E33.g (E16.g gA0 (by decide)) (by decide)) (by decide)) (by decide)) (by decide)) (by decide)) (by decide)) (by decide)) (by decide)) (by decide)) (by decide)) (by decide)) (by decide)) (by decide)) (by decide)) (by decide)) (by decide)) (by decide)) (by decide)) (by decide)) (by decide)) (by decide)) (W417.addr e412 b413 (E403.g (E387.g (E369.g (E351.g (E333.g (E315.g (E294.g (E276.g (E256.g (E236.g (E216.g (E196.g (E176.g (E146.g (E133.g (E115.g (E95.g (E69.g (E51.g (E33.g (E16.g gA0 (by decide)) (by decide)) (by decide)) (by decide)) (by decide)) (by decide)) (by decide)) (by decide)) (by decide)) (by decide)) (by decide)) (by decide)) (by decide)) (by decide)) (by decide)) (by decide)) (by decide)) (by decide)) (by decide)) (by decide)) (by decide)) (by decide)) b413 W417.at
  · refine v_nn_t (t1 := 35) rfl rfl (beq_g hI b3 (by decide)) ?_
    refine w_t (np := 36) (l2 := [some (eR a0), some (eI (3)), none, none]) (s2 := [eR a0]) rfl (s_an rfl (pos_g hI gA0 (by decide))) rfl ?_
    refine j_gr (np := 39) rfl rfl hI gA0 (by decide) (n := 4) rfl rfl rfl ?_
    intro v5 e6 b7 z8
    have b7 : g v5 = 51 := Nat.eq_of_beq_eq_true b7
    refine w_t (np := 40) (l2 := [some (eR a0), some (eI (3)), none, none]) (s2 := [eI (3), eR v5]) rfl rfl rfl ?_
    refine w_t (np := 41) (l2 := [some (eR a0), some (eI (3)), none, none]) (s2 := [eI (0), eI (3), eR v5]) rfl rfl rfl ?_
    refine j_as (np := 42) rfl rfl hI b7 (by decide) (n := 4) rfl rfl (lo := -1) (hi := 64) (fun _ => rfl) (by decide) (by decide) (by decide) ?_
    intro m9 I10 W11
    have F12 : Fr l_14p_3 0 0 g μ m9 := F0.v W11 b7 rfl rfl
    exact K g m9 v1 v5 _ _ _ hI.re I10 F12 (Or.inl ⟨(fun z => by have h9 := e2; have h8 := pos_g hI b3 (by decide); omega), rfl, rfl⟩) b3 (W11.addr e2 b7 gA0 (by decide)) (W11.addr e6 b7 gA0 (by decide)) b7 W11.at
def l_14n_0 : List Nat := [13056, 12800, 12544]
theorem s_14n_0 {L : Nat} {ρ : Nat → Int} {rc : eQ} {d : Nat} {f : eFr} {F : List eFr} {μ : eM} {g : Nat → Nat} {a0 : Nat} {a2 : Int} {a3 : Option eV} {rcn tt : Nat} (hI : SI g μ) (gA0 : g a0 = 48) (bA2 : 0 ≤ a2 ∧ a2 ≤ 5) (ecn : μ.1 a0 2 = (rcn : Int)) (grc : g rcn = 51) (hcn : ∃ cn : Int, μ.1 rcn 0 = cn ∧ 0 ≤ cn) (ett : μ.1 a0 3 = (tt : Int)) (gtt : g tt = 42) (K : ∀ (μ2 : eM) (o : Option eV), SI g μ2 → Fr l_14n_0 0 0 g μ μ2 → (∃ cn : Int, μ2.1 rcn 0 = cn ∧ 0 ≤ cn) → ex_q (dt_fg L ρ) rc (d + 2, (14, 121, [some (eR a0), some (eI (0)), some (eI (a2)), o], []), f :: F, μ2)) : ex_q (dt_fg L ρ) rc (d + 2, (14, 88, [some (eR a0), some (eI (0)), some (eI (a2)), a3], []), f :: F, μ) := by
  have F0 : Fr l_14n_0 0 0 g μ μ := Fr.r
  obtain ⟨cn0, ecn0, bcn0⟩ := hcn
  have bcn0 : 0 ≤ cn0 ∧ cn0 ≤ 64 := ⟨bcn0, by rw [← ecn0]; exact (hI.int (k := 0) grc (by decide) (n := 4) rfl (by decide) rfl).2⟩
  refine w_t (np := 89) (l2 := [some (eR a0), some (eI (0)), some (eI (a2)), a3]) (s2 := [eI (0)]) rfl rfl rfl ?_
  refine w_t (np := 90) (l2 := [some (eR a0), some (eI (0)), some (eI (a2)), some (eI (0))]) (s2 := []) rfl rfl rfl ?_
  have hL90 : ∀ (n1 : Nat) (m5 : eM) (i3 : Int) (x8 : Int), SI g m5 → Fr l_14n_0 0 0 g μ m5 → (0 ≤ i3 ∧ i3 ≤ 64) → m5.1 a0 3 = ((tt : Nat) : Int) → m5.1 a0 2 = ((rcn : Nat) : Int) → m5.1 rcn 0 = x8 → (0 ≤ x8 ∧ x8 ≤ 64) → n1 = (64 - i3).toNat → ex_q (dt_fg L ρ) rc (d + 2, (14, 90, [some (eR a0), some (eI (0)), some (eI (a2)), some (eI (i3))], []), f :: F, m5) := by
    intro n1
    induction n1 using Nat.strongRecOn with
    | _ n1 ih2 =>
    intro m5 i3 x8 I6 F7 b4 k11 k12 h9 b10 hn13
    refine w_t (np := 91) (l2 := [some (eR a0), some (eI (0)), some (eI (a2)), some (eI (i3))]) (s2 := [eI (i3)]) rfl rfl rfl ?_
    refine w_t (np := 92) (l2 := [some (eR a0), some (eI (0)), some (eI (a2)), some (eI (i3))]) (s2 := [eR a0, eI (i3)]) rfl (s_an rfl (pos_g I6 gA0 (by decide))) rfl ?_
    refine w_gf (np := 95) (v := eR tt) rfl rfl (I6.kd gA0 (by decide) (n := 4) rfl) (by rw [k11]; rfl) ?_
    refine j_gi (np := 98) rfl rfl rfl I6 gtt (by decide) (n := 10) rfl rfl (lo := 0) (hi := 64) rfl ?_
    intro v14 e15 b16
    refine b_cge (t1 := 121) (t2 := 101) rfl rfl rfl (ev_w_in (by omega) (by omega)) (ev_w_in (by omega) (by omega)) (fun g17 => ?_) (fun g17 => ?_)
    · exact K m5 _ I6 F7 ⟨_, h9, by omega⟩
    · have b18 : 0 ≤ i3 ∧ i3 ≤ 63 := by omega
      have b19 : 1 ≤ v14 ∧ v14 ≤ 64 := by omega
      refine w_t (np := 102) (l2 := [some (eR a0), some (eI (0)), some (eI (a2)), some (eI (i3))]) (s2 := [eR a0]) rfl (s_an rfl (pos_g I6 gA0 (by decide))) rfl ?_
      refine w_t (np := 103) (l2 := [some (eR a0), some (eI (0)), some (eI (a2)), some (eI (i3))]) (s2 := [eI (0), eR a0]) rfl rfl rfl ?_
      refine w_t (np := 104) (l2 := [some (eR a0), some (eI (0)), some (eI (a2)), some (eI (i3))]) (s2 := [eR a0, eI (0), eR a0]) rfl (s_an rfl (pos_g I6 gA0 (by decide))) rfl ?_
      refine w_gf (np := 107) (v := eR tt) rfl rfl (I6.kd gA0 (by decide) (n := 4) rfl) (by rw [k11]; rfl) ?_
      refine w_t (np := 108) (l2 := [some (eR a0), some (eI (0)), some (eI (a2)), some (eI (i3))]) (s2 := [eI (i3), eR tt, eI (0), eR a0]) rfl rfl rfl ?_
      refine w_cw (np := 111) (as := [eI (i3)]) (l2 := [some (eR tt), some (eI (i3))]) (rest := [eI (0), eR a0]) rfl rfl rfl (Nat.ble_eq.mp rfl) rfl rfl rfl (I6.kd gtt (by decide) (n := 10) rfl) rfl ?_
      refine s_9 (a1 := i3) I6 gtt (by omega) ?_
      intro v18 b19
      show ex_q (dt_fg L ρ) rc (d + 2, (14, 111, [some (eR a0), some (eI (0)), some (eI (a2)), some (eI (i3))], [eI (v18), eI (0), eR a0]), f :: F, m5)
      refine w_t (np := 112) (l2 := [some (eR a0), some (eI (0)), some (eI (a2)), some (eI (i3))]) (s2 := [eI (a2), eI (v18), eI (0), eR a0]) rfl rfl rfl ?_
      refine w_cw (np := 115) (as := [eI (0), eI (v18), eI (a2)]) (l2 := [some (eR a0), some (eI (0)), some (eI (v18)), some (eI (a2)), none]) (rest := []) rfl rfl rfl (Nat.ble_eq.mp rfl) rfl rfl rfl (I6.kd gA0 (by decide) (n := 4) rfl) rfl ?_
      refine w_t (np := 1) (l2 := [some (eR a0), some (eI (0)), some (eI (v18)), some (eI (a2)), none]) (s2 := [eR a0]) rfl (s_an rfl (pos_g I6 gA0 (by decide))) rfl ?_
      refine w_gf (np := 4) (v := eR rcn) rfl rfl (I6.kd gA0 (by decide) (n := 4) rfl) (by rw [k12]; rfl) ?_
      refine w_t (np := 5) (l2 := [some (eR a0), some (eI (0)), some (eI (v18)), some (eI (a2)), none]) (s2 := [eI (0), eR rcn]) rfl rfl rfl ?_
      refine j_al (np := 6) rfl rfl I6 grc (by decide) (n := 4) rfl rfl (lo := -1) (hi := 64) (fun _ => rfl) (by decide) (by decide) ?_
      intro v20 e21 b22
      have e21 := e21.symm.trans h9
      rw [e21]
      refine w_t (np := 8) (l2 := [some (eR a0), some (eI (0)), some (eI (v18)), some (eI (a2)), none]) (s2 := [eI (64), eI (x8)]) rfl rfl rfl ?_
      refine b_cge (t1 := 59) (t2 := 11) rfl rfl rfl (ev_w_in (by omega) (by omega)) rfl (fun g23 => ?_) (fun g23 => ?_)
      · have b24 : 64 ≤ x8 ∧ x8 ≤ 64 := by omega
        refine v_rv rfl rfl ?_
        show ex_q (dt_fg L ρ) rc (d + 2, (14, 115, [some (eR a0), some (eI (0)), some (eI (a2)), some (eI (i3))], []), f :: F, m5)
        obtain ⟨v24, e25⟩ : ∃ zz : Int, zz = (i3) + (1) := ⟨_, rfl⟩
        have b26 : 1 ≤ v24 ∧ v24 ≤ 64 := by omega
        refine w_t (np := 118) (l2 := [some (eR a0), some (eI (0)), some (eI (a2)), some (eI (v24))]) (s2 := []) rfl (b_iinc rfl (by rw [← e25]; exact ev_w_in (by omega) (by omega)) rfl) rfl ?_
        refine w_go (t1 := 90) rfl rfl ?_
        exact ih2 (64 - (v24)).toNat (by omega) m5 (v24) (x8) I6 F7 (by omega) k11 k12 h9 (by omega)   rfl
      · have b24 : 0 ≤ x8 ∧ x8 ≤ 63 := by omega
        refine w_t (np := 12) (l2 := [some (eR a0), some (eI (0)), some (eI (v18)), some (eI (a2)), none]) (s2 := [eR a0]) rfl (s_an rfl (pos_g I6 gA0 (by decide))) rfl ?_
        refine w_t (np := 13) (l2 := [some (eR a0), some (eI (0)), some (eI (v18)), some (eI (a2)), none]) (s2 := [eI (0), eR a0]) rfl rfl rfl ?_
        refine w_t (np := 14) (l2 := [some (eR a0), some (eI (0)), some (eI (v18)), some (eI (a2)), none]) (s2 := [eI (v18), eI (0), eR a0]) rfl rfl rfl ?_
        refine w_cw (np := 17) (as := [eI (0), eI (v18)]) (l2 := [some (eR a0), some (eI (0)), some (eI (v18)), none, none]) (rest := []) rfl rfl rfl (Nat.ble_eq.mp rfl) rfl rfl rfl (I6.kd gA0 (by decide) (n := 4) rfl) rfl ?_
        refine s_13 (a1 := 0) (a2 := v18) I6 gA0 (by decide) (by omega) ?_
        intro v24 b25
        show ex_q (dt_fg L ρ) rc (d + 1, (15, 17, [some (eR a0), some (eI (0)), some (eI (v18)), some (eI (a2)), none], [eI (v24)]), (14, 115, [some (eR a0), some (eI (0)), some (eI (a2)), some (eI (i3))], []) :: f :: F, m5)
        refine b_ige (t1 := 59) (t2 := 20) rfl rfl rfl (ev_w_in (by omega) (by omega)) (fun g26 => ?_) (fun g26 => ?_)
        · have b27 : 0 ≤ v24 ∧ v24 ≤ 255 := by omega
          refine v_rv rfl rfl ?_
          show ex_q (dt_fg L ρ) rc (d + 2, (14, 115, [some (eR a0), some (eI (0)), some (eI (a2)), some (eI (i3))], []), f :: F, m5)
          obtain ⟨v27, e28⟩ : ∃ zz : Int, zz = (i3) + (1) := ⟨_, rfl⟩
          have b29 : 1 ≤ v27 ∧ v27 ≤ 64 := by omega
          refine w_t (np := 118) (l2 := [some (eR a0), some (eI (0)), some (eI (a2)), some (eI (v27))]) (s2 := []) rfl (b_iinc rfl (by rw [← e28]; exact ev_w_in (by omega) (by omega)) rfl) rfl ?_
          refine w_go (t1 := 90) rfl rfl ?_
          exact ih2 (64 - (v27)).toNat (by omega) m5 (v27) (x8) I6 F7 (by omega) k11 k12 h9 (by omega)   rfl
        · have b27 : -1 ≤ v24 ∧ v24 ≤ -1 := by omega
          refine w_t (np := 21) (l2 := [some (eR a0), some (eI (0)), some (eI (v18)), some (eI (a2)), none]) (s2 := [eI (0)]) rfl rfl rfl ?_
          refine w_t (np := 23) (l2 := [some (eR a0), some (eI (0)), some (eI (v18)), some (eI (a2)), none]) (s2 := [eI (64), eI (0)]) rfl rfl rfl ?_
          refine w_t (np := 24) (l2 := [some (eR a0), some (eI (0)), some (eI (v18)), some (eI (a2)), none]) (s2 := [eI (0)]) rfl (b_imul rfl) rfl ?_
          refine w_t (np := 25) (l2 := [some (eR a0), some (eI (0)), some (eI (v18)), some (eI (a2)), none]) (s2 := [eR a0, eI (0)]) rfl (s_an rfl (pos_g I6 gA0 (by decide))) rfl ?_
          refine w_gf (np := 28) (v := eR rcn) rfl rfl (I6.kd gA0 (by decide) (n := 4) rfl) (by rw [k12]; rfl) ?_
          refine w_t (np := 29) (l2 := [some (eR a0), some (eI (0)), some (eI (v18)), some (eI (a2)), none]) (s2 := [eI (0), eR rcn, eI (0)]) rfl rfl rfl ?_
          refine j_al (np := 30) rfl rfl I6 grc (by decide) (n := 4) rfl rfl (lo := -1) (hi := 64) (fun _ => rfl) (by decide) (by decide) ?_
          intro v27 e28 b29
          have e28 := e28.symm.trans h9
          rw [e28]
          obtain ⟨v30, e31⟩ : ∃ zz : Int, zz = (0) + (x8) := ⟨_, rfl⟩
          have b32 : 0 ≤ v30 ∧ v30 ≤ 63 := by omega
          refine w_t (np := 31) (l2 := [some (eR a0), some (eI (0)), some (eI (v18)), some (eI (a2)), none]) (s2 := [eI (v30)]) rfl (b_iadd (by rw [← e31]; exact ev_w_in (by omega) (by omega))) rfl ?_
          refine w_t (np := 33) (l2 := [some (eR a0), some (eI (0)), some (eI (v18)), some (eI (a2)), some (eI (v30))]) (s2 := []) rfl rfl rfl ?_
          refine w_t (np := 34) (l2 := [some (eR a0), some (eI (0)), some (eI (v18)), some (eI (a2)), some (eI (v30))]) (s2 := [eR a0]) rfl (s_an rfl (pos_g I6 gA0 (by decide))) rfl ?_
          refine j_gr (np := 37) rfl rfl I6 gA0 (by decide) (n := 4) rfl rfl rfl ?_
          intro v33 e34 b35 z36
          have b35 : g v33 = 49 := Nat.eq_of_beq_eq_true b35
          refine w_t (np := 39) (l2 := [some (eR a0), some (eI (0)), some (eI (v18)), some (eI (a2)), some (eI (v30))]) (s2 := [eI (v30), eR v33]) rfl rfl rfl ?_
          refine w_t (np := 40) (l2 := [some (eR a0), some (eI (0)), some (eI (v18)), some (eI (a2)), some (eI (v30))]) (s2 := [eI (v18), eI (v30), eR v33]) rfl rfl rfl ?_
          refine j_as (np := 41) rfl rfl I6 b35 (by decide) (n := 256) rfl rfl (lo := -2147483648) (hi := 2147483647) (fun _ => rfl) (by omega) (by omega) (by omega) ?_
          intro m37 I38 W39
          have F40 : Fr l_14n_0 0 0 g μ m37 := F7.v W39 b35 rfl rfl
          refine w_t (np := 42) (l2 := [some (eR a0), some (eI (0)), some (eI (v18)), some (eI (a2)), some (eI (v30))]) (s2 := [eR a0]) rfl (s_an rfl (pos_g I38 gA0 (by decide))) rfl ?_
          refine j_gr (np := 45) rfl rfl I38 gA0 (by decide) (n := 4) rfl rfl rfl ?_
          intro v41 e42 b43 z44
          have b43 : g v41 = 50 := Nat.eq_of_beq_eq_true b43
          refine w_t (np := 47) (l2 := [some (eR a0), some (eI (0)), some (eI (v18)), some (eI (a2)), some (eI (v30))]) (s2 := [eI (v30), eR v41]) rfl rfl rfl ?_
          refine w_t (np := 48) (l2 := [some (eR a0), some (eI (0)), some (eI (v18)), some (eI (a2)), some (eI (v30))]) (s2 := [eI (a2), eI (v30), eR v41]) rfl rfl rfl ?_
          refine j_as (np := 49) rfl rfl I38 b43 (by decide) (n := 256) rfl rfl (lo := -2147483648) (hi := 2147483647) (fun _ => rfl) (by omega) (by omega) (by omega) ?_
          intro m45 I46 W47
          have F48 : Fr l_14n_0 0 0 g μ m45 := F40.v W47 b43 rfl rfl
          refine w_t (np := 50) (l2 := [some (eR a0), some (eI (0)), some (eI (v18)), some (eI (a2)), some (eI (v30))]) (s2 := [eR a0]) rfl (s_an rfl (pos_g I46 gA0 (by decide))) rfl ?_
          refine w_gf (np := 53) (v := eR rcn) rfl rfl (I46.kd gA0 (by decide) (n := 4) rfl) (by rw [(W47.addr (W39.addr k12 b35 gA0 (by decide)) b43 gA0 (by decide))]; rfl) ?_
          refine w_t (np := 54) (l2 := [some (eR a0), some (eI (0)), some (eI (v18)), some (eI (a2)), some (eI (v30))]) (s2 := [eI (0), eR rcn]) rfl rfl rfl ?_
          refine w_t (np := 55) (l2 := [some (eR a0), some (eI (0)), some (eI (v18)), some (eI (a2)), some (eI (v30))]) (s2 := [eI (0), eR rcn, eI (0), eR rcn]) rfl rfl rfl ?_
          refine j_al (np := 56) rfl rfl I46 grc (by decide) (n := 4) rfl rfl (lo := -1) (hi := 64) (fun _ => rfl) (by decide) (by decide) ?_
          intro v49 e50 b51
          have e50 := e50.symm.trans (W47.addr (W39.addr h9 b35 grc (by decide)) b43 grc (by decide))
          rw [e50]
          refine w_t (np := 57) (l2 := [some (eR a0), some (eI (0)), some (eI (v18)), some (eI (a2)), some (eI (v30))]) (s2 := [eI (1), eI (x8), eI (0), eR rcn]) rfl rfl rfl ?_
          obtain ⟨v52, e53⟩ : ∃ zz : Int, zz = (x8) + (1) := ⟨_, rfl⟩
          have b54 : 1 ≤ v52 ∧ v52 ≤ 64 := by omega
          refine w_t (np := 58) (l2 := [some (eR a0), some (eI (0)), some (eI (v18)), some (eI (a2)), some (eI (v30))]) (s2 := [eI (v52), eI (0), eR rcn]) rfl (b_iadd (by rw [← e53]; exact ev_w_in (by omega) (by omega))) rfl ?_
          refine j_as (np := 59) rfl rfl I46 grc (by decide) (n := 4) rfl rfl (lo := -1) (hi := 64) (fun _ => rfl) (by decide) (by decide) (by omega) ?_
          intro m55 I56 W57
          have F58 : Fr l_14n_0 0 0 g μ m55 := F48.v W57 grc rfl rfl
          refine v_rv rfl rfl ?_
          show ex_q (dt_fg L ρ) rc (d + 2, (14, 115, [some (eR a0), some (eI (0)), some (eI (a2)), some (eI (i3))], []), f :: F, m55)
          obtain ⟨v59, e60⟩ : ∃ zz : Int, zz = (i3) + (1) := ⟨_, rfl⟩
          have b61 : 1 ≤ v59 ∧ v59 ≤ 64 := by omega
          refine w_t (np := 118) (l2 := [some (eR a0), some (eI (0)), some (eI (a2)), some (eI (v59))]) (s2 := []) rfl (b_iinc rfl (by rw [← e60]; exact ev_w_in (by omega) (by omega)) rfl) rfl ?_
          refine w_go (t1 := 90) rfl rfl ?_
          exact ih2 (64 - (v59)).toNat (by omega) m55 (v59) (v52) I56 F58 (by omega) (W57.addr (W47.addr (W39.addr k11 b35 gA0 (by decide)) b43 gA0 (by decide)) grc gA0 (by decide)) (W57.addr (W47.addr (W39.addr k12 b35 gA0 (by decide)) b43 gA0 (by decide)) grc gA0 (by decide)) W57.at (by omega)   rfl
  exact hL90 _ μ (0) (cn0) hI F0 (by decide) ett ecn ecn0 (by omega)   rfl
def l_14n_1 : List Nat := [13056, 12800, 12544]
theorem s_14n_1 {L : Nat} {ρ : Nat → Int} {rc : eQ} {d : Nat} {f : eFr} {F : List eFr} {μ : eM} {g : Nat → Nat} {a0 : Nat} {a2 : Int} {a3 : Option eV} {rcn tt : Nat} (hI : SI g μ) (gA0 : g a0 = 48) (bA2 : 0 ≤ a2 ∧ a2 ≤ 5) (ecn : μ.1 a0 2 = (rcn : Int)) (grc : g rcn = 51) (hcn : ∃ cn : Int, μ.1 rcn 1 = cn ∧ 0 ≤ cn) (ett : μ.1 a0 3 = (tt : Int)) (gtt : g tt = 42) (K : ∀ (μ2 : eM) (o : Option eV), SI g μ2 → Fr l_14n_1 0 0 g μ μ2 → (∃ cn : Int, μ2.1 rcn 1 = cn ∧ 0 ≤ cn) → ex_q (dt_fg L ρ) rc (d + 2, (14, 121, [some (eR a0), some (eI (1)), some (eI (a2)), o], []), f :: F, μ2)) : ex_q (dt_fg L ρ) rc (d + 2, (14, 88, [some (eR a0), some (eI (1)), some (eI (a2)), a3], []), f :: F, μ) := by
  have F0 : Fr l_14n_1 0 0 g μ μ := Fr.r
  obtain ⟨cn0, ecn0, bcn0⟩ := hcn
  have bcn0 : 0 ≤ cn0 ∧ cn0 ≤ 64 := ⟨bcn0, by rw [← ecn0]; exact (hI.int (k := 1) grc (by decide) (n := 4) rfl (by decide) rfl).2⟩
  refine w_t (np := 89) (l2 := [some (eR a0), some (eI (1)), some (eI (a2)), a3]) (s2 := [eI (0)]) rfl rfl rfl ?_
  refine w_t (np := 90) (l2 := [some (eR a0), some (eI (1)), some (eI (a2)), some (eI (0))]) (s2 := []) rfl rfl rfl ?_
  have hL90 : ∀ (n1 : Nat) (m5 : eM) (i3 : Int) (x8 : Int), SI g m5 → Fr l_14n_1 0 0 g μ m5 → (0 ≤ i3 ∧ i3 ≤ 64) → m5.1 a0 3 = ((tt : Nat) : Int) → m5.1 a0 2 = ((rcn : Nat) : Int) → m5.1 rcn 1 = x8 → (0 ≤ x8 ∧ x8 ≤ 64) → n1 = (64 - i3).toNat → ex_q (dt_fg L ρ) rc (d + 2, (14, 90, [some (eR a0), some (eI (1)), some (eI (a2)), some (eI (i3))], []), f :: F, m5) := by
    intro n1
    induction n1 using Nat.strongRecOn with
    | _ n1 ih2 =>
    intro m5 i3 x8 I6 F7 b4 k11 k12 h9 b10 hn13
    refine w_t (np := 91) (l2 := [some (eR a0), some (eI (1)), some (eI (a2)), some (eI (i3))]) (s2 := [eI (i3)]) rfl rfl rfl ?_
    refine w_t (np := 92) (l2 := [some (eR a0), some (eI (1)), some (eI (a2)), some (eI (i3))]) (s2 := [eR a0, eI (i3)]) rfl (s_an rfl (pos_g I6 gA0 (by decide))) rfl ?_
    refine w_gf (np := 95) (v := eR tt) rfl rfl (I6.kd gA0 (by decide) (n := 4) rfl) (by rw [k11]; rfl) ?_
    refine j_gi (np := 98) rfl rfl rfl I6 gtt (by decide) (n := 10) rfl rfl (lo := 0) (hi := 64) rfl ?_
    intro v14 e15 b16
    refine b_cge (t1 := 121) (t2 := 101) rfl rfl rfl (ev_w_in (by omega) (by omega)) (ev_w_in (by omega) (by omega)) (fun g17 => ?_) (fun g17 => ?_)
    · exact K m5 _ I6 F7 ⟨_, h9, by omega⟩
    · have b18 : 0 ≤ i3 ∧ i3 ≤ 63 := by omega
      have b19 : 1 ≤ v14 ∧ v14 ≤ 64 := by omega
      refine w_t (np := 102) (l2 := [some (eR a0), some (eI (1)), some (eI (a2)), some (eI (i3))]) (s2 := [eR a0]) rfl (s_an rfl (pos_g I6 gA0 (by decide))) rfl ?_
      refine w_t (np := 103) (l2 := [some (eR a0), some (eI (1)), some (eI (a2)), some (eI (i3))]) (s2 := [eI (1), eR a0]) rfl rfl rfl ?_
      refine w_t (np := 104) (l2 := [some (eR a0), some (eI (1)), some (eI (a2)), some (eI (i3))]) (s2 := [eR a0, eI (1), eR a0]) rfl (s_an rfl (pos_g I6 gA0 (by decide))) rfl ?_
      refine w_gf (np := 107) (v := eR tt) rfl rfl (I6.kd gA0 (by decide) (n := 4) rfl) (by rw [k11]; rfl) ?_
      refine w_t (np := 108) (l2 := [some (eR a0), some (eI (1)), some (eI (a2)), some (eI (i3))]) (s2 := [eI (i3), eR tt, eI (1), eR a0]) rfl rfl rfl ?_
      refine w_cw (np := 111) (as := [eI (i3)]) (l2 := [some (eR tt), some (eI (i3))]) (rest := [eI (1), eR a0]) rfl rfl rfl (Nat.ble_eq.mp rfl) rfl rfl rfl (I6.kd gtt (by decide) (n := 10) rfl) rfl ?_
      refine s_9 (a1 := i3) I6 gtt (by omega) ?_
      intro v18 b19
      show ex_q (dt_fg L ρ) rc (d + 2, (14, 111, [some (eR a0), some (eI (1)), some (eI (a2)), some (eI (i3))], [eI (v18), eI (1), eR a0]), f :: F, m5)
      refine w_t (np := 112) (l2 := [some (eR a0), some (eI (1)), some (eI (a2)), some (eI (i3))]) (s2 := [eI (a2), eI (v18), eI (1), eR a0]) rfl rfl rfl ?_
      refine w_cw (np := 115) (as := [eI (1), eI (v18), eI (a2)]) (l2 := [some (eR a0), some (eI (1)), some (eI (v18)), some (eI (a2)), none]) (rest := []) rfl rfl rfl (Nat.ble_eq.mp rfl) rfl rfl rfl (I6.kd gA0 (by decide) (n := 4) rfl) rfl ?_
      refine w_t (np := 1) (l2 := [some (eR a0), some (eI (1)), some (eI (v18)), some (eI (a2)), none]) (s2 := [eR a0]) rfl (s_an rfl (pos_g I6 gA0 (by decide))) rfl ?_
      refine w_gf (np := 4) (v := eR rcn) rfl rfl (I6.kd gA0 (by decide) (n := 4) rfl) (by rw [k12]; rfl) ?_
      refine w_t (np := 5) (l2 := [some (eR a0), some (eI (1)), some (eI (v18)), some (eI (a2)), none]) (s2 := [eI (1), eR rcn]) rfl rfl rfl ?_
      refine j_al (np := 6) rfl rfl I6 grc (by decide) (n := 4) rfl rfl (lo := -1) (hi := 64) (fun _ => rfl) (by decide) (by decide) ?_
      intro v20 e21 b22
      have e21 := e21.symm.trans h9
      rw [e21]
      refine w_t (np := 8) (l2 := [some (eR a0), some (eI (1)), some (eI (v18)), some (eI (a2)), none]) (s2 := [eI (64), eI (x8)]) rfl rfl rfl ?_
      refine b_cge (t1 := 59) (t2 := 11) rfl rfl rfl (ev_w_in (by omega) (by omega)) rfl (fun g23 => ?_) (fun g23 => ?_)
      · have b24 : 64 ≤ x8 ∧ x8 ≤ 64 := by omega
        refine v_rv rfl rfl ?_
        show ex_q (dt_fg L ρ) rc (d + 2, (14, 115, [some (eR a0), some (eI (1)), some (eI (a2)), some (eI (i3))], []), f :: F, m5)
        obtain ⟨v24, e25⟩ : ∃ zz : Int, zz = (i3) + (1) := ⟨_, rfl⟩
        have b26 : 1 ≤ v24 ∧ v24 ≤ 64 := by omega
        refine w_t (np := 118) (l2 := [some (eR a0), some (eI (1)), some (eI (a2)), some (eI (v24))]) (s2 := []) rfl (b_iinc rfl (by rw [← e25]; exact ev_w_in (by omega) (by omega)) rfl) rfl ?_
        refine w_go (t1 := 90) rfl rfl ?_
        exact ih2 (64 - (v24)).toNat (by omega) m5 (v24) (x8) I6 F7 (by omega) k11 k12 h9 (by omega)   rfl
      · have b24 : 0 ≤ x8 ∧ x8 ≤ 63 := by omega
        refine w_t (np := 12) (l2 := [some (eR a0), some (eI (1)), some (eI (v18)), some (eI (a2)), none]) (s2 := [eR a0]) rfl (s_an rfl (pos_g I6 gA0 (by decide))) rfl ?_
        refine w_t (np := 13) (l2 := [some (eR a0), some (eI (1)), some (eI (v18)), some (eI (a2)), none]) (s2 := [eI (1), eR a0]) rfl rfl rfl ?_
        refine w_t (np := 14) (l2 := [some (eR a0), some (eI (1)), some (eI (v18)), some (eI (a2)), none]) (s2 := [eI (v18), eI (1), eR a0]) rfl rfl rfl ?_
        refine w_cw (np := 17) (as := [eI (1), eI (v18)]) (l2 := [some (eR a0), some (eI (1)), some (eI (v18)), none, none]) (rest := []) rfl rfl rfl (Nat.ble_eq.mp rfl) rfl rfl rfl (I6.kd gA0 (by decide) (n := 4) rfl) rfl ?_
        refine s_13 (a1 := 1) (a2 := v18) I6 gA0 (by decide) (by omega) ?_
        intro v24 b25
        show ex_q (dt_fg L ρ) rc (d + 1, (15, 17, [some (eR a0), some (eI (1)), some (eI (v18)), some (eI (a2)), none], [eI (v24)]), (14, 115, [some (eR a0), some (eI (1)), some (eI (a2)), some (eI (i3))], []) :: f :: F, m5)
        refine b_ige (t1 := 59) (t2 := 20) rfl rfl rfl (ev_w_in (by omega) (by omega)) (fun g26 => ?_) (fun g26 => ?_)
        · have b27 : 0 ≤ v24 ∧ v24 ≤ 255 := by omega
          refine v_rv rfl rfl ?_
          show ex_q (dt_fg L ρ) rc (d + 2, (14, 115, [some (eR a0), some (eI (1)), some (eI (a2)), some (eI (i3))], []), f :: F, m5)
          obtain ⟨v27, e28⟩ : ∃ zz : Int, zz = (i3) + (1) := ⟨_, rfl⟩
          have b29 : 1 ≤ v27 ∧ v27 ≤ 64 := by omega
          refine w_t (np := 118) (l2 := [some (eR a0), some (eI (1)), some (eI (a2)), some (eI (v27))]) (s2 := []) rfl (b_iinc rfl (by rw [← e28]; exact ev_w_in (by omega) (by omega)) rfl) rfl ?_
          refine w_go (t1 := 90) rfl rfl ?_
          exact ih2 (64 - (v27)).toNat (by omega) m5 (v27) (x8) I6 F7 (by omega) k11 k12 h9 (by omega)   rfl
        · have b27 : -1 ≤ v24 ∧ v24 ≤ -1 := by omega
          refine w_t (np := 21) (l2 := [some (eR a0), some (eI (1)), some (eI (v18)), some (eI (a2)), none]) (s2 := [eI (1)]) rfl rfl rfl ?_
          refine w_t (np := 23) (l2 := [some (eR a0), some (eI (1)), some (eI (v18)), some (eI (a2)), none]) (s2 := [eI (64), eI (1)]) rfl rfl rfl ?_
          refine w_t (np := 24) (l2 := [some (eR a0), some (eI (1)), some (eI (v18)), some (eI (a2)), none]) (s2 := [eI (64)]) rfl (b_imul rfl) rfl ?_
          refine w_t (np := 25) (l2 := [some (eR a0), some (eI (1)), some (eI (v18)), some (eI (a2)), none]) (s2 := [eR a0, eI (64)]) rfl (s_an rfl (pos_g I6 gA0 (by decide))) rfl ?_
          refine w_gf (np := 28) (v := eR rcn) rfl rfl (I6.kd gA0 (by decide) (n := 4) rfl) (by rw [k12]; rfl) ?_
          refine w_t (np := 29) (l2 := [some (eR a0), some (eI (1)), some (eI (v18)), some (eI (a2)), none]) (s2 := [eI (1), eR rcn, eI (64)]) rfl rfl rfl ?_
          refine j_al (np := 30) rfl rfl I6 grc (by decide) (n := 4) rfl rfl (lo := -1) (hi := 64) (fun _ => rfl) (by decide) (by decide) ?_
          intro v27 e28 b29
          have e28 := e28.symm.trans h9
          rw [e28]
          obtain ⟨v30, e31⟩ : ∃ zz : Int, zz = (64) + (x8) := ⟨_, rfl⟩
          have b32 : 64 ≤ v30 ∧ v30 ≤ 127 := by omega
          refine w_t (np := 31) (l2 := [some (eR a0), some (eI (1)), some (eI (v18)), some (eI (a2)), none]) (s2 := [eI (v30)]) rfl (b_iadd (by rw [← e31]; exact ev_w_in (by omega) (by omega))) rfl ?_
          refine w_t (np := 33) (l2 := [some (eR a0), some (eI (1)), some (eI (v18)), some (eI (a2)), some (eI (v30))]) (s2 := []) rfl rfl rfl ?_
          refine w_t (np := 34) (l2 := [some (eR a0), some (eI (1)), some (eI (v18)), some (eI (a2)), some (eI (v30))]) (s2 := [eR a0]) rfl (s_an rfl (pos_g I6 gA0 (by decide))) rfl ?_
          refine j_gr (np := 37) rfl rfl I6 gA0 (by decide) (n := 4) rfl rfl rfl ?_
          intro v33 e34 b35 z36
          have b35 : g v33 = 49 := Nat.eq_of_beq_eq_true b35
          refine w_t (np := 39) (l2 := [some (eR a0), some (eI (1)), some (eI (v18)), some (eI (a2)), some (eI (v30))]) (s2 := [eI (v30), eR v33]) rfl rfl rfl ?_
          refine w_t (np := 40) (l2 := [some (eR a0), some (eI (1)), some (eI (v18)), some (eI (a2)), some (eI (v30))]) (s2 := [eI (v18), eI (v30), eR v33]) rfl rfl rfl ?_
          refine j_as (np := 41) rfl rfl I6 b35 (by decide) (n := 256) rfl rfl (lo := -2147483648) (hi := 2147483647) (fun _ => rfl) (by omega) (by omega) (by omega) ?_
          intro m37 I38 W39
          have F40 : Fr l_14n_1 0 0 g μ m37 := F7.v W39 b35 rfl rfl
          refine w_t (np := 42) (l2 := [some (eR a0), some (eI (1)), some (eI (v18)), some (eI (a2)), some (eI (v30))]) (s2 := [eR a0]) rfl (s_an rfl (pos_g I38 gA0 (by decide))) rfl ?_
          refine j_gr (np := 45) rfl rfl I38 gA0 (by decide) (n := 4) rfl rfl rfl ?_
          intro v41 e42 b43 z44
          have b43 : g v41 = 50 := Nat.eq_of_beq_eq_true b43
          refine w_t (np := 47) (l2 := [some (eR a0), some (eI (1)), some (eI (v18)), some (eI (a2)), some (eI (v30))]) (s2 := [eI (v30), eR v41]) rfl rfl rfl ?_
          refine w_t (np := 48) (l2 := [some (eR a0), some (eI (1)), some (eI (v18)), some (eI (a2)), some (eI (v30))]) (s2 := [eI (a2), eI (v30), eR v41]) rfl rfl rfl ?_
          refine j_as (np := 49) rfl rfl I38 b43 (by decide) (n := 256) rfl rfl (lo := -2147483648) (hi := 2147483647) (fun _ => rfl) (by omega) (by omega) (by omega) ?_
          intro m45 I46 W47
          have F48 : Fr l_14n_1 0 0 g μ m45 := F40.v W47 b43 rfl rfl
          refine w_t (np := 50) (l2 := [some (eR a0), some (eI (1)), some (eI (v18)), some (eI (a2)), some (eI (v30))]) (s2 := [eR a0]) rfl (s_an rfl (pos_g I46 gA0 (by decide))) rfl ?_
          refine w_gf (np := 53) (v := eR rcn) rfl rfl (I46.kd gA0 (by decide) (n := 4) rfl) (by rw [(W47.addr (W39.addr k12 b35 gA0 (by decide)) b43 gA0 (by decide))]; rfl) ?_
          refine w_t (np := 54) (l2 := [some (eR a0), some (eI (1)), some (eI (v18)), some (eI (a2)), some (eI (v30))]) (s2 := [eI (1), eR rcn]) rfl rfl rfl ?_
          refine w_t (np := 55) (l2 := [some (eR a0), some (eI (1)), some (eI (v18)), some (eI (a2)), some (eI (v30))]) (s2 := [eI (1), eR rcn, eI (1), eR rcn]) rfl rfl rfl ?_
          refine j_al (np := 56) rfl rfl I46 grc (by decide) (n := 4) rfl rfl (lo := -1) (hi := 64) (fun _ => rfl) (by decide) (by decide) ?_
          intro v49 e50 b51
          have e50 := e50.symm.trans (W47.addr (W39.addr h9 b35 grc (by decide)) b43 grc (by decide))
          rw [e50]
          refine w_t (np := 57) (l2 := [some (eR a0), some (eI (1)), some (eI (v18)), some (eI (a2)), some (eI (v30))]) (s2 := [eI (1), eI (x8), eI (1), eR rcn]) rfl rfl rfl ?_
          obtain ⟨v52, e53⟩ : ∃ zz : Int, zz = (x8) + (1) := ⟨_, rfl⟩
          have b54 : 1 ≤ v52 ∧ v52 ≤ 64 := by omega
          refine w_t (np := 58) (l2 := [some (eR a0), some (eI (1)), some (eI (v18)), some (eI (a2)), some (eI (v30))]) (s2 := [eI (v52), eI (1), eR rcn]) rfl (b_iadd (by rw [← e53]; exact ev_w_in (by omega) (by omega))) rfl ?_
          refine j_as (np := 59) rfl rfl I46 grc (by decide) (n := 4) rfl rfl (lo := -1) (hi := 64) (fun _ => rfl) (by decide) (by decide) (by omega) ?_
          intro m55 I56 W57
          have F58 : Fr l_14n_1 0 0 g μ m55 := F48.v W57 grc rfl rfl
          refine v_rv rfl rfl ?_
          show ex_q (dt_fg L ρ) rc (d + 2, (14, 115, [some (eR a0), some (eI (1)), some (eI (a2)), some (eI (i3))], []), f :: F, m55)
          obtain ⟨v59, e60⟩ : ∃ zz : Int, zz = (i3) + (1) := ⟨_, rfl⟩
          have b61 : 1 ≤ v59 ∧ v59 ≤ 64 := by omega
          refine w_t (np := 118) (l2 := [some (eR a0), some (eI (1)), some (eI (a2)), some (eI (v59))]) (s2 := []) rfl (b_iinc rfl (by rw [← e60]; exact ev_w_in (by omega) (by omega)) rfl) rfl ?_
          refine w_go (t1 := 90) rfl rfl ?_
          exact ih2 (64 - (v59)).toNat (by omega) m55 (v59) (v52) I56 F58 (by omega) (W57.addr (W47.addr (W39.addr k11 b35 gA0 (by decide)) b43 gA0 (by decide)) grc gA0 (by decide)) (W57.addr (W47.addr (W39.addr k12 b35 gA0 (by decide)) b43 gA0 (by decide)) grc gA0 (by decide)) W57.at (by omega)   rfl
  exact hL90 _ μ (0) (cn0) hI F0 (by decide) ett ecn ecn0 (by omega)   rfl
def l_14n_2 : List Nat := [13056, 12800, 12544]
theorem s_14n_2 {L : Nat} {ρ : Nat → Int} {rc : eQ} {d : Nat} {f : eFr} {F : List eFr} {μ : eM} {g : Nat → Nat} {a0 : Nat} {a2 : Int} {a3 : Option eV} {rcn tt : Nat} (hI : SI g μ) (gA0 : g a0 = 48) (bA2 : 0 ≤ a2 ∧ a2 ≤ 5) (ecn : μ.1 a0 2 = (rcn : Int)) (grc : g rcn = 51) (hcn : ∃ cn : Int, μ.1 rcn 2 = cn ∧ 0 ≤ cn) (ett : μ.1 a0 3 = (tt : Int)) (gtt : g tt = 42) (K : ∀ (μ2 : eM) (o : Option eV), SI g μ2 → Fr l_14n_2 0 0 g μ μ2 → (∃ cn : Int, μ2.1 rcn 2 = cn ∧ 0 ≤ cn) → ex_q (dt_fg L ρ) rc (d + 2, (14, 121, [some (eR a0), some (eI (2)), some (eI (a2)), o], []), f :: F, μ2)) : ex_q (dt_fg L ρ) rc (d + 2, (14, 88, [some (eR a0), some (eI (2)), some (eI (a2)), a3], []), f :: F, μ) := by
  have F0 : Fr l_14n_2 0 0 g μ μ := Fr.r
  obtain ⟨cn0, ecn0, bcn0⟩ := hcn
  have bcn0 : 0 ≤ cn0 ∧ cn0 ≤ 64 := ⟨bcn0, by rw [← ecn0]; exact (hI.int (k := 2) grc (by decide) (n := 4) rfl (by decide) rfl).2⟩
  refine w_t (np := 89) (l2 := [some (eR a0), some (eI (2)), some (eI (a2)), a3]) (s2 := [eI (0)]) rfl rfl rfl ?_
  refine w_t (np := 90) (l2 := [some (eR a0), some (eI (2)), some (eI (a2)), some (eI (0))]) (s2 := []) rfl rfl rfl ?_
  have hL90 : ∀ (n1 : Nat) (m5 : eM) (i3 : Int) (x8 : Int), SI g m5 → Fr l_14n_2 0 0 g μ m5 → (0 ≤ i3 ∧ i3 ≤ 64) → m5.1 a0 3 = ((tt : Nat) : Int) → m5.1 a0 2 = ((rcn : Nat) : Int) → m5.1 rcn 2 = x8 → (0 ≤ x8 ∧ x8 ≤ 64) → n1 = (64 - i3).toNat → ex_q (dt_fg L ρ) rc (d + 2, (14, 90, [some (eR a0), some (eI (2)), some (eI (a2)), some (eI (i3))], []), f :: F, m5) := by
    intro n1
    induction n1 using Nat.strongRecOn with
    | _ n1 ih2 =>
    intro m5 i3 x8 I6 F7 b4 k11 k12 h9 b10 hn13
    refine w_t (np := 91) (l2 := [some (eR a0), some (eI (2)), some (eI (a2)), some (eI (i3))]) (s2 := [eI (i3)]) rfl rfl rfl ?_
    refine w_t (np := 92) (l2 := [some (eR a0), some (eI (2)), some (eI (a2)), some (eI (i3))]) (s2 := [eR a0, eI (i3)]) rfl (s_an rfl (pos_g I6 gA0 (by decide))) rfl ?_
    refine w_gf (np := 95) (v := eR tt) rfl rfl (I6.kd gA0 (by decide) (n := 4) rfl) (by rw [k11]; rfl) ?_
    refine j_gi (np := 98) rfl rfl rfl I6 gtt (by decide) (n := 10) rfl rfl (lo := 0) (hi := 64) rfl ?_
    intro v14 e15 b16
    refine b_cge (t1 := 121) (t2 := 101) rfl rfl rfl (ev_w_in (by omega) (by omega)) (ev_w_in (by omega) (by omega)) (fun g17 => ?_) (fun g17 => ?_)
    · exact K m5 _ I6 F7 ⟨_, h9, by omega⟩
    · have b18 : 0 ≤ i3 ∧ i3 ≤ 63 := by omega
      have b19 : 1 ≤ v14 ∧ v14 ≤ 64 := by omega
      refine w_t (np := 102) (l2 := [some (eR a0), some (eI (2)), some (eI (a2)), some (eI (i3))]) (s2 := [eR a0]) rfl (s_an rfl (pos_g I6 gA0 (by decide))) rfl ?_
      refine w_t (np := 103) (l2 := [some (eR a0), some (eI (2)), some (eI (a2)), some (eI (i3))]) (s2 := [eI (2), eR a0]) rfl rfl rfl ?_
      refine w_t (np := 104) (l2 := [some (eR a0), some (eI (2)), some (eI (a2)), some (eI (i3))]) (s2 := [eR a0, eI (2), eR a0]) rfl (s_an rfl (pos_g I6 gA0 (by decide))) rfl ?_
      refine w_gf (np := 107) (v := eR tt) rfl rfl (I6.kd gA0 (by decide) (n := 4) rfl) (by rw [k11]; rfl) ?_
      refine w_t (np := 108) (l2 := [some (eR a0), some (eI (2)), some (eI (a2)), some (eI (i3))]) (s2 := [eI (i3), eR tt, eI (2), eR a0]) rfl rfl rfl ?_
      refine w_cw (np := 111) (as := [eI (i3)]) (l2 := [some (eR tt), some (eI (i3))]) (rest := [eI (2), eR a0]) rfl rfl rfl (Nat.ble_eq.mp rfl) rfl rfl rfl (I6.kd gtt (by decide) (n := 10) rfl) rfl ?_
      refine s_9 (a1 := i3) I6 gtt (by omega) ?_
      intro v18 b19
      show ex_q (dt_fg L ρ) rc (d + 2, (14, 111, [some (eR a0), some (eI (2)), some (eI (a2)), some (eI (i3))], [eI (v18), eI (2), eR a0]), f :: F, m5)
      refine w_t (np := 112) (l2 := [some (eR a0), some (eI (2)), some (eI (a2)), some (eI (i3))]) (s2 := [eI (a2), eI (v18), eI (2), eR a0]) rfl rfl rfl ?_
      refine w_cw (np := 115) (as := [eI (2), eI (v18), eI (a2)]) (l2 := [some (eR a0), some (eI (2)), some (eI (v18)), some (eI (a2)), none]) (rest := []) rfl rfl rfl (Nat.ble_eq.mp rfl) rfl rfl rfl (I6.kd gA0 (by decide) (n := 4) rfl) rfl ?_
      refine w_t (np := 1) (l2 := [some (eR a0), some (eI (2)), some (eI (v18)), some (eI (a2)), none]) (s2 := [eR a0]) rfl (s_an rfl (pos_g I6 gA0 (by decide))) rfl ?_
      refine w_gf (np := 4) (v := eR rcn) rfl rfl (I6.kd gA0 (by decide) (n := 4) rfl) (by rw [k12]; rfl) ?_
      refine w_t (np := 5) (l2 := [some (eR a0), some (eI (2)), some (eI (v18)), some (eI (a2)), none]) (s2 := [eI (2), eR rcn]) rfl rfl rfl ?_
      refine j_al (np := 6) rfl rfl I6 grc (by decide) (n := 4) rfl rfl (lo := -1) (hi := 64) (fun _ => rfl) (by decide) (by decide) ?_
      intro v20 e21 b22
      have e21 := e21.symm.trans h9
      rw [e21]
      refine w_t (np := 8) (l2 := [some (eR a0), some (eI (2)), some (eI (v18)), some (eI (a2)), none]) (s2 := [eI (64), eI (x8)]) rfl rfl rfl ?_
      refine b_cge (t1 := 59) (t2 := 11) rfl rfl rfl (ev_w_in (by omega) (by omega)) rfl (fun g23 => ?_) (fun g23 => ?_)
      · have b24 : 64 ≤ x8 ∧ x8 ≤ 64 := by omega
        refine v_rv rfl rfl ?_
        show ex_q (dt_fg L ρ) rc (d + 2, (14, 115, [some (eR a0), some (eI (2)), some (eI (a2)), some (eI (i3))], []), f :: F, m5)
        obtain ⟨v24, e25⟩ : ∃ zz : Int, zz = (i3) + (1) := ⟨_, rfl⟩
        have b26 : 1 ≤ v24 ∧ v24 ≤ 64 := by omega
        refine w_t (np := 118) (l2 := [some (eR a0), some (eI (2)), some (eI (a2)), some (eI (v24))]) (s2 := []) rfl (b_iinc rfl (by rw [← e25]; exact ev_w_in (by omega) (by omega)) rfl) rfl ?_
        refine w_go (t1 := 90) rfl rfl ?_
        exact ih2 (64 - (v24)).toNat (by omega) m5 (v24) (x8) I6 F7 (by omega) k11 k12 h9 (by omega)   rfl
      · have b24 : 0 ≤ x8 ∧ x8 ≤ 63 := by omega
        refine w_t (np := 12) (l2 := [some (eR a0), some (eI (2)), some (eI (v18)), some (eI (a2)), none]) (s2 := [eR a0]) rfl (s_an rfl (pos_g I6 gA0 (by decide))) rfl ?_
        refine w_t (np := 13) (l2 := [some (eR a0), some (eI (2)), some (eI (v18)), some (eI (a2)), none]) (s2 := [eI (2), eR a0]) rfl rfl rfl ?_
        refine w_t (np := 14) (l2 := [some (eR a0), some (eI (2)), some (eI (v18)), some (eI (a2)), none]) (s2 := [eI (v18), eI (2), eR a0]) rfl rfl rfl ?_
        refine w_cw (np := 17) (as := [eI (2), eI (v18)]) (l2 := [some (eR a0), some (eI (2)), some (eI (v18)), none, none]) (rest := []) rfl rfl rfl (Nat.ble_eq.mp rfl) rfl rfl rfl (I6.kd gA0 (by decide) (n := 4) rfl) rfl ?_
        refine s_13 (a1 := 2) (a2 := v18) I6 gA0 (by decide) (by omega) ?_
        intro v24 b25
        show ex_q (dt_fg L ρ) rc (d + 1, (15, 17, [some (eR a0), some (eI (2)), some (eI (v18)), some (eI (a2)), none], [eI (v24)]), (14, 115, [some (eR a0), some (eI (2)), some (eI (a2)), some (eI (i3))], []) :: f :: F, m5)
        refine b_ige (t1 := 59) (t2 := 20) rfl rfl rfl (ev_w_in (by omega) (by omega)) (fun g26 => ?_) (fun g26 => ?_)
        · have b27 : 0 ≤ v24 ∧ v24 ≤ 255 := by omega
          refine v_rv rfl rfl ?_
          show ex_q (dt_fg L ρ) rc (d + 2, (14, 115, [some (eR a0), some (eI (2)), some (eI (a2)), some (eI (i3))], []), f :: F, m5)
          obtain ⟨v27, e28⟩ : ∃ zz : Int, zz = (i3) + (1) := ⟨_, rfl⟩
          have b29 : 1 ≤ v27 ∧ v27 ≤ 64 := by omega
          refine w_t (np := 118) (l2 := [some (eR a0), some (eI (2)), some (eI (a2)), some (eI (v27))]) (s2 := []) rfl (b_iinc rfl (by rw [← e28]; exact ev_w_in (by omega) (by omega)) rfl) rfl ?_
          refine w_go (t1 := 90) rfl rfl ?_
          exact ih2 (64 - (v27)).toNat (by omega) m5 (v27) (x8) I6 F7 (by omega) k11 k12 h9 (by omega)   rfl
        · have b27 : -1 ≤ v24 ∧ v24 ≤ -1 := by omega
          refine w_t (np := 21) (l2 := [some (eR a0), some (eI (2)), some (eI (v18)), some (eI (a2)), none]) (s2 := [eI (2)]) rfl rfl rfl ?_
          refine w_t (np := 23) (l2 := [some (eR a0), some (eI (2)), some (eI (v18)), some (eI (a2)), none]) (s2 := [eI (64), eI (2)]) rfl rfl rfl ?_
          refine w_t (np := 24) (l2 := [some (eR a0), some (eI (2)), some (eI (v18)), some (eI (a2)), none]) (s2 := [eI (128)]) rfl (b_imul rfl) rfl ?_
          refine w_t (np := 25) (l2 := [some (eR a0), some (eI (2)), some (eI (v18)), some (eI (a2)), none]) (s2 := [eR a0, eI (128)]) rfl (s_an rfl (pos_g I6 gA0 (by decide))) rfl ?_
          refine w_gf (np := 28) (v := eR rcn) rfl rfl (I6.kd gA0 (by decide) (n := 4) rfl) (by rw [k12]; rfl) ?_
          refine w_t (np := 29) (l2 := [some (eR a0), some (eI (2)), some (eI (v18)), some (eI (a2)), none]) (s2 := [eI (2), eR rcn, eI (128)]) rfl rfl rfl ?_
          refine j_al (np := 30) rfl rfl I6 grc (by decide) (n := 4) rfl rfl (lo := -1) (hi := 64) (fun _ => rfl) (by decide) (by decide) ?_
          intro v27 e28 b29
          have e28 := e28.symm.trans h9
          rw [e28]
          obtain ⟨v30, e31⟩ : ∃ zz : Int, zz = (128) + (x8) := ⟨_, rfl⟩
          have b32 : 128 ≤ v30 ∧ v30 ≤ 191 := by omega
          refine w_t (np := 31) (l2 := [some (eR a0), some (eI (2)), some (eI (v18)), some (eI (a2)), none]) (s2 := [eI (v30)]) rfl (b_iadd (by rw [← e31]; exact ev_w_in (by omega) (by omega))) rfl ?_
          refine w_t (np := 33) (l2 := [some (eR a0), some (eI (2)), some (eI (v18)), some (eI (a2)), some (eI (v30))]) (s2 := []) rfl rfl rfl ?_
          refine w_t (np := 34) (l2 := [some (eR a0), some (eI (2)), some (eI (v18)), some (eI (a2)), some (eI (v30))]) (s2 := [eR a0]) rfl (s_an rfl (pos_g I6 gA0 (by decide))) rfl ?_
          refine j_gr (np := 37) rfl rfl I6 gA0 (by decide) (n := 4) rfl rfl rfl ?_
          intro v33 e34 b35 z36
          have b35 : g v33 = 49 := Nat.eq_of_beq_eq_true b35
          refine w_t (np := 39) (l2 := [some (eR a0), some (eI (2)), some (eI (v18)), some (eI (a2)), some (eI (v30))]) (s2 := [eI (v30), eR v33]) rfl rfl rfl ?_
          refine w_t (np := 40) (l2 := [some (eR a0), some (eI (2)), some (eI (v18)), some (eI (a2)), some (eI (v30))]) (s2 := [eI (v18), eI (v30), eR v33]) rfl rfl rfl ?_
          refine j_as (np := 41) rfl rfl I6 b35 (by decide) (n := 256) rfl rfl (lo := -2147483648) (hi := 2147483647) (fun _ => rfl) (by omega) (by omega) (by omega) ?_
          intro m37 I38 W39
          have F40 : Fr l_14n_2 0 0 g μ m37 := F7.v W39 b35 rfl rfl
          refine w_t (np := 42) (l2 := [some (eR a0), some (eI (2)), some (eI (v18)), some (eI (a2)), some (eI (v30))]) (s2 := [eR a0]) rfl (s_an rfl (pos_g I38 gA0 (by decide))) rfl ?_
          refine j_gr (np := 45) rfl rfl I38 gA0 (by decide) (n := 4) rfl rfl rfl ?_
          intro v41 e42 b43 z44
          have b43 : g v41 = 50 := Nat.eq_of_beq_eq_true b43
          refine w_t (np := 47) (l2 := [some (eR a0), some (eI (2)), some (eI (v18)), some (eI (a2)), some (eI (v30))]) (s2 := [eI (v30), eR v41]) rfl rfl rfl ?_
          refine w_t (np := 48) (l2 := [some (eR a0), some (eI (2)), some (eI (v18)), some (eI (a2)), some (eI (v30))]) (s2 := [eI (a2), eI (v30), eR v41]) rfl rfl rfl ?_
          refine j_as (np := 49) rfl rfl I38 b43 (by decide) (n := 256) rfl rfl (lo := -2147483648) (hi := 2147483647) (fun _ => rfl) (by omega) (by omega) (by omega) ?_
          intro m45 I46 W47
          have F48 : Fr l_14n_2 0 0 g μ m45 := F40.v W47 b43 rfl rfl
          refine w_t (np := 50) (l2 := [some (eR a0), some (eI (2)), some (eI (v18)), some (eI (a2)), some (eI (v30))]) (s2 := [eR a0]) rfl (s_an rfl (pos_g I46 gA0 (by decide))) rfl ?_
          refine w_gf (np := 53) (v := eR rcn) rfl rfl (I46.kd gA0 (by decide) (n := 4) rfl) (by rw [(W47.addr (W39.addr k12 b35 gA0 (by decide)) b43 gA0 (by decide))]; rfl) ?_
          refine w_t (np := 54) (l2 := [some (eR a0), some (eI (2)), some (eI (v18)), some (eI (a2)), some (eI (v30))]) (s2 := [eI (2), eR rcn]) rfl rfl rfl ?_
          refine w_t (np := 55) (l2 := [some (eR a0), some (eI (2)), some (eI (v18)), some (eI (a2)), some (eI (v30))]) (s2 := [eI (2), eR rcn, eI (2), eR rcn]) rfl rfl rfl ?_
          refine j_al (np := 56) rfl rfl I46 grc (by decide) (n := 4) rfl rfl (lo := -1) (hi := 64) (fun _ => rfl) (by decide) (by decide) ?_
          intro v49 e50 b51
          have e50 := e50.symm.trans (W47.addr (W39.addr h9 b35 grc (by decide)) b43 grc (by decide))
          rw [e50]
          refine w_t (np := 57) (l2 := [some (eR a0), some (eI (2)), some (eI (v18)), some (eI (a2)), some (eI (v30))]) (s2 := [eI (1), eI (x8), eI (2), eR rcn]) rfl rfl rfl ?_
          obtain ⟨v52, e53⟩ : ∃ zz : Int, zz = (x8) + (1) := ⟨_, rfl⟩
          have b54 : 1 ≤ v52 ∧ v52 ≤ 64 := by omega
          refine w_t (np := 58) (l2 := [some (eR a0), some (eI (2)), some (eI (v18)), some (eI (a2)), some (eI (v30))]) (s2 := [eI (v52), eI (2), eR rcn]) rfl (b_iadd (by rw [← e53]; exact ev_w_in (by omega) (by omega))) rfl ?_
          refine j_as (np := 59) rfl rfl I46 grc (by decide) (n := 4) rfl rfl (lo := -1) (hi := 64) (fun _ => rfl) (by decide) (by decide) (by omega) ?_
          intro m55 I56 W57
          have F58 : Fr l_14n_2 0 0 g μ m55 := F48.v W57 grc rfl rfl
          refine v_rv rfl rfl ?_
          show ex_q (dt_fg L ρ) rc (d + 2, (14, 115, [some (eR a0), some (eI (2)), some (eI (a2)), some (eI (i3))], []), f :: F, m55)
          obtain ⟨v59, e60⟩ : ∃ zz : Int, zz = (i3) + (1) := ⟨_, rfl⟩
          have b61 : 1 ≤ v59 ∧ v59 ≤ 64 := by omega
          refine w_t (np := 118) (l2 := [some (eR a0), some (eI (2)), some (eI (a2)), some (eI (v59))]) (s2 := []) rfl (b_iinc rfl (by rw [← e60]; exact ev_w_in (by omega) (by omega)) rfl) rfl ?_
          refine w_go (t1 := 90) rfl rfl ?_
          exact ih2 (64 - (v59)).toNat (by omega) m55 (v59) (v52) I56 F58 (by omega) (W57.addr (W47.addr (W39.addr k11 b35 gA0 (by decide)) b43 gA0 (by decide)) grc gA0 (by decide)) (W57.addr (W47.addr (W39.addr k12 b35 gA0 (by decide)) b43 gA0 (by decide)) grc gA0 (by decide)) W57.at (by omega)   rfl
  exact hL90 _ μ (0) (cn0) hI F0 (by decide) ett ecn ecn0 (by omega)   rfl
def l_14n_3 : List Nat := [13056, 12800, 12544]
theorem s_14n_3 {L : Nat} {ρ : Nat → Int} {rc : eQ} {d : Nat} {f : eFr} {F : List eFr} {μ : eM} {g : Nat → Nat} {a0 : Nat} {a2 : Int} {a3 : Option eV} {rcn tt : Nat} (hI : SI g μ) (gA0 : g a0 = 48) (bA2 : 0 ≤ a2 ∧ a2 ≤ 5) (ecn : μ.1 a0 2 = (rcn : Int)) (grc : g rcn = 51) (hcn : ∃ cn : Int, μ.1 rcn 3 = cn ∧ 0 ≤ cn) (ett : μ.1 a0 3 = (tt : Int)) (gtt : g tt = 42) (K : ∀ (μ2 : eM) (o : Option eV), SI g μ2 → Fr l_14n_3 0 0 g μ μ2 → (∃ cn : Int, μ2.1 rcn 3 = cn ∧ 0 ≤ cn) → ex_q (dt_fg L ρ) rc (d + 2, (14, 121, [some (eR a0), some (eI (3)), some (eI (a2)), o], []), f :: F, μ2)) : ex_q (dt_fg L ρ) rc (d + 2, (14, 88, [some (eR a0), some (eI (3)), some (eI (a2)), a3], []), f :: F, μ) := by
  have F0 : Fr l_14n_3 0 0 g μ μ := Fr.r
  obtain ⟨cn0, ecn0, bcn0⟩ := hcn
  have bcn0 : 0 ≤ cn0 ∧ cn0 ≤ 64 := ⟨bcn0, by rw [← ecn0]; exact (hI.int (k := 3) grc (by decide) (n := 4) rfl (by decide) rfl).2⟩
  refine w_t (np := 89) (l2 := [some (eR a0), some (eI (3)), some (eI (a2)), a3]) (s2 := [eI (0)]) rfl rfl rfl ?_
  refine w_t (np := 90) (l2 := [some (eR a0), some (eI (3)), some (eI (a2)), some (eI (0))]) (s2 := []) rfl rfl rfl ?_
  have hL90 : ∀ (n1 : Nat) (m5 : eM) (i3 : Int) (x8 : Int), SI g m5 → Fr l_14n_3 0 0 g μ m5 → (0 ≤ i3 ∧ i3 ≤ 64) → m5.1 a0 3 = ((tt : Nat) : Int) → m5.1 a0 2 = ((rcn : Nat) : Int) → m5.1 rcn 3 = x8 → (0 ≤ x8 ∧ x8 ≤ 64) → n1 = (64 - i3).toNat → ex_q (dt_fg L ρ) rc (d + 2, (14, 90, [some (eR a0), some (eI (3)), some (eI (a2)), some (eI (i3))], []), f :: F, m5) := by
    intro n1
    induction n1 using Nat.strongRecOn with
    | _ n1 ih2 =>
    intro m5 i3 x8 I6 F7 b4 k11 k12 h9 b10 hn13
    refine w_t (np := 91) (l2 := [some (eR a0), some (eI (3)), some (eI (a2)), some (eI (i3))]) (s2 := [eI (i3)]) rfl rfl rfl ?_
    refine w_t (np := 92) (l2 := [some (eR a0), some (eI (3)), some (eI (a2)), some (eI (i3))]) (s2 := [eR a0, eI (i3)]) rfl (s_an rfl (pos_g I6 gA0 (by decide))) rfl ?_
    refine w_gf (np := 95) (v := eR tt) rfl rfl (I6.kd gA0 (by decide) (n := 4) rfl) (by rw [k11]; rfl) ?_
    refine j_gi (np := 98) rfl rfl rfl I6 gtt (by decide) (n := 10) rfl rfl (lo := 0) (hi := 64) rfl ?_
    intro v14 e15 b16
    refine b_cge (t1 := 121) (t2 := 101) rfl rfl rfl (ev_w_in (by omega) (by omega)) (ev_w_in (by omega) (by omega)) (fun g17 => ?_) (fun g17 => ?_)
    · exact K m5 _ I6 F7 ⟨_, h9, by omega⟩
    · have b18 : 0 ≤ i3 ∧ i3 ≤ 63 := by omega
      have b19 : 1 ≤ v14 ∧ v14 ≤ 64 := by omega
      refine w_t (np := 102) (l2 := [some (eR a0), some (eI (3)), some (eI (a2)), some (eI (i3))]) (s2 := [eR a0]) rfl (s_an rfl (pos_g I6 gA0 (by decide))) rfl ?_
      refine w_t (np := 103) (l2 := [some (eR a0), some (eI (3)), some (eI (a2)), some (eI (i3))]) (s2 := [eI (3), eR a0]) rfl rfl rfl ?_
      refine w_t (np := 104) (l2 := [some (eR a0), some (eI (3)), some (eI (a2)), some (eI (i3))]) (s2 := [eR a0, eI (3), eR a0]) rfl (s_an rfl (pos_g I6 gA0 (by decide))) rfl ?_
      refine w_gf (np := 107) (v := eR tt) rfl rfl (I6.kd gA0 (by decide) (n := 4) rfl) (by rw [k11]; rfl) ?_
      refine w_t (np := 108) (l2 := [some (eR a0), some (eI (3)), some (eI (a2)), some (eI (i3))]) (s2 := [eI (i3), eR tt, eI (3), eR a0]) rfl rfl rfl ?_
      refine w_cw (np := 111) (as := [eI (i3)]) (l2 := [some (eR tt), some (eI (i3))]) (rest := [eI (3), eR a0]) rfl rfl rfl (Nat.ble_eq.mp rfl) rfl rfl rfl (I6.kd gtt (by decide) (n := 10) rfl) rfl ?_
      refine s_9 (a1 := i3) I6 gtt (by omega) ?_
      intro v18 b19
      show ex_q (dt_fg L ρ) rc (d + 2, (14, 111, [some (eR a0), some (eI (3)), some (eI (a2)), some (eI (i3))], [eI (v18), eI (3), eR a0]), f :: F, m5)
      refine w_t (np := 112) (l2 := [some (eR a0), some (eI (3)), some (eI (a2)), some (eI (i3))]) (s2 := [eI (a2), eI (v18), eI (3), eR a0]) rfl rfl rfl ?_
      refine w_cw (np := 115) (as := [eI (3), eI (v18), eI (a2)]) (l2 := [some (eR a0), some (eI (3)), some (eI (v18)), some (eI (a2)), none]) (rest := []) rfl rfl rfl (Nat.ble_eq.mp rfl) rfl rfl rfl (I6.kd gA0 (by decide) (n := 4) rfl) rfl ?_
      refine w_t (np := 1) (l2 := [some (eR a0), some (eI (3)), some (eI (v18)), some (eI (a2)), none]) (s2 := [eR a0]) rfl (s_an rfl (pos_g I6 gA0 (by decide))) rfl ?_
      refine w_gf (np := 4) (v := eR rcn) rfl rfl (I6.kd gA0 (by decide) (n := 4) rfl) (by rw [k12]; rfl) ?_
      refine w_t (np := 5) (l2 := [some (eR a0), some (eI (3)), some (eI (v18)), some (eI (a2)), none]) (s2 := [eI (3), eR rcn]) rfl rfl rfl ?_
      refine j_al (np := 6) rfl rfl I6 grc (by decide) (n := 4) rfl rfl (lo := -1) (hi := 64) (fun _ => rfl) (by decide) (by decide) ?_
      intro v20 e21 b22
      have e21 := e21.symm.trans h9
      rw [e21]
      refine w_t (np := 8) (l2 := [some (eR a0), some (eI (3)), some (eI (v18)), some (eI (a2)), none]) (s2 := [eI (64), eI (x8)]) rfl rfl rfl ?_
      refine b_cge (t1 := 59) (t2 := 11) rfl rfl rfl (ev_w_in (by omega) (by omega)) rfl (fun g23 => ?_) (fun g23 => ?_)
      · have b24 : 64 ≤ x8 ∧ x8 ≤ 64 := by omega
        refine v_rv rfl rfl ?_
        show ex_q (dt_fg L ρ) rc (d + 2, (14, 115, [some (eR a0), some (eI (3)), some (eI (a2)), some (eI (i3))], []), f :: F, m5)
        obtain ⟨v24, e25⟩ : ∃ zz : Int, zz = (i3) + (1) := ⟨_, rfl⟩
        have b26 : 1 ≤ v24 ∧ v24 ≤ 64 := by omega
        refine w_t (np := 118) (l2 := [some (eR a0), some (eI (3)), some (eI (a2)), some (eI (v24))]) (s2 := []) rfl (b_iinc rfl (by rw [← e25]; exact ev_w_in (by omega) (by omega)) rfl) rfl ?_
        refine w_go (t1 := 90) rfl rfl ?_
        exact ih2 (64 - (v24)).toNat (by omega) m5 (v24) (x8) I6 F7 (by omega) k11 k12 h9 (by omega)   rfl
      · have b24 : 0 ≤ x8 ∧ x8 ≤ 63 := by omega
        refine w_t (np := 12) (l2 := [some (eR a0), some (eI (3)), some (eI (v18)), some (eI (a2)), none]) (s2 := [eR a0]) rfl (s_an rfl (pos_g I6 gA0 (by decide))) rfl ?_
        refine w_t (np := 13) (l2 := [some (eR a0), some (eI (3)), some (eI (v18)), some (eI (a2)), none]) (s2 := [eI (3), eR a0]) rfl rfl rfl ?_
        refine w_t (np := 14) (l2 := [some (eR a0), some (eI (3)), some (eI (v18)), some (eI (a2)), none]) (s2 := [eI (v18), eI (3), eR a0]) rfl rfl rfl ?_
        refine w_cw (np := 17) (as := [eI (3), eI (v18)]) (l2 := [some (eR a0), some (eI (3)), some (eI (v18)), none, none]) (rest := []) rfl rfl rfl (Nat.ble_eq.mp rfl) rfl rfl rfl (I6.kd gA0 (by decide) (n := 4) rfl) rfl ?_
        refine s_13 (a1 := 3) (a2 := v18) I6 gA0 (by decide) (by omega) ?_
        intro v24 b25
        show ex_q (dt_fg L ρ) rc (d + 1, (15, 17, [some (eR a0), some (eI (3)), some (eI (v18)), some (eI (a2)), none], [eI (v24)]), (14, 115, [some (eR a0), some (eI (3)), some (eI (a2)), some (eI (i3))], []) :: f :: F, m5)
        refine b_ige (t1 := 59) (t2 := 20) rfl rfl rfl (ev_w_in (by omega) (by omega)) (fun g26 => ?_) (fun g26 => ?_)
        · have b27 : 0 ≤ v24 ∧ v24 ≤ 255 := by omega
          refine v_rv rfl rfl ?_
          show ex_q (dt_fg L ρ) rc (d + 2, (14, 115, [some (eR a0), some (eI (3)), some (eI (a2)), some (eI (i3))], []), f :: F, m5)
          obtain ⟨v27, e28⟩ : ∃ zz : Int, zz = (i3) + (1) := ⟨_, rfl⟩
          have b29 : 1 ≤ v27 ∧ v27 ≤ 64 := by omega
          refine w_t (np := 118) (l2 := [some (eR a0), some (eI (3)), some (eI (a2)), some (eI (v27))]) (s2 := []) rfl (b_iinc rfl (by rw [← e28]; exact ev_w_in (by omega) (by omega)) rfl) rfl ?_
          refine w_go (t1 := 90) rfl rfl ?_
          exact ih2 (64 - (v27)).toNat (by omega) m5 (v27) (x8) I6 F7 (by omega) k11 k12 h9 (by omega)   rfl
        · have b27 : -1 ≤ v24 ∧ v24 ≤ -1 := by omega
          refine w_t (np := 21) (l2 := [some (eR a0), some (eI (3)), some (eI (v18)), some (eI (a2)), none]) (s2 := [eI (3)]) rfl rfl rfl ?_
          refine w_t (np := 23) (l2 := [some (eR a0), some (eI (3)), some (eI (v18)), some (eI (a2)), none]) (s2 := [eI (64), eI (3)]) rfl rfl rfl ?_
          refine w_t (np := 24) (l2 := [some (eR a0), some (eI (3)), some (eI (v18)), some (eI (a2)), none]) (s2 := [eI (192)]) rfl (b_imul rfl) rfl ?_
          refine w_t (np := 25) (l2 := [some (eR a0), some (eI (3)), some (eI (v18)), some (eI (a2)), none]) (s2 := [eR a0, eI (192)]) rfl (s_an rfl (pos_g I6 gA0 (by decide))) rfl ?_
          refine w_gf (np := 28) (v := eR rcn) rfl rfl (I6.kd gA0 (by decide) (n := 4) rfl) (by rw [k12]; rfl) ?_
          refine w_t (np := 29) (l2 := [some (eR a0), some (eI (3)), some (eI (v18)), some (eI (a2)), none]) (s2 := [eI (3), eR rcn, eI (192)]) rfl rfl rfl ?_
          refine j_al (np := 30) rfl rfl I6 grc (by decide) (n := 4) rfl rfl (lo := -1) (hi := 64) (fun _ => rfl) (by decide) (by decide) ?_
          intro v27 e28 b29
          have e28 := e28.symm.trans h9
          rw [e28]
          obtain ⟨v30, e31⟩ : ∃ zz : Int, zz = (192) + (x8) := ⟨_, rfl⟩
          have b32 : 192 ≤ v30 ∧ v30 ≤ 255 := by omega
          refine w_t (np := 31) (l2 := [some (eR a0), some (eI (3)), some (eI (v18)), some (eI (a2)), none]) (s2 := [eI (v30)]) rfl (b_iadd (by rw [← e31]; exact ev_w_in (by omega) (by omega))) rfl ?_
          refine w_t (np := 33) (l2 := [some (eR a0), some (eI (3)), some (eI (v18)), some (eI (a2)), some (eI (v30))]) (s2 := []) rfl rfl rfl ?_
          refine w_t (np := 34) (l2 := [some (eR a0), some (eI (3)), some (eI (v18)), some (eI (a2)), some (eI (v30))]) (s2 := [eR a0]) rfl (s_an rfl (pos_g I6 gA0 (by decide))) rfl ?_
          refine j_gr (np := 37) rfl rfl I6 gA0 (by decide) (n := 4) rfl rfl rfl ?_
          intro v33 e34 b35 z36
          have b35 : g v33 = 49 := Nat.eq_of_beq_eq_true b35
          refine w_t (np := 39) (l2 := [some (eR a0), some (eI (3)), some (eI (v18)), some (eI (a2)), some (eI (v30))]) (s2 := [eI (v30), eR v33]) rfl rfl rfl ?_
          refine w_t (np := 40) (l2 := [some (eR a0), some (eI (3)), some (eI (v18)), some (eI (a2)), some (eI (v30))]) (s2 := [eI (v18), eI (v30), eR v33]) rfl rfl rfl ?_
          refine j_as (np := 41) rfl rfl I6 b35 (by decide) (n := 256) rfl rfl (lo := -2147483648) (hi := 2147483647) (fun _ => rfl) (by omega) (by omega) (by omega) ?_
          intro m37 I38 W39
          have F40 : Fr l_14n_3 0 0 g μ m37 := F7.v W39 b35 rfl rfl
          refine w_t (np := 42) (l2 := [some (eR a0), some (eI (3)), some (eI (v18)), some (eI (a2)), some (eI (v30))]) (s2 := [eR a0]) rfl (s_an rfl (pos_g I38 gA0 (by decide))) rfl ?_
          refine j_gr (np := 45) rfl rfl I38 gA0 (by decide) (n := 4) rfl rfl rfl ?_
          intro v41 e42 b43 z44
          have b43 : g v41 = 50 := Nat.eq_of_beq_eq_true b43
          refine w_t (np := 47) (l2 := [some (eR a0), some (eI (3)), some (eI (v18)), some (eI (a2)), some (eI (v30))]) (s2 := [eI (v30), eR v41]) rfl rfl rfl ?_
          refine w_t (np := 48) (l2 := [some (eR a0), some (eI (3)), some (eI (v18)), some (eI (a2)), some (eI (v30))]) (s2 := [eI (a2), eI (v30), eR v41]) rfl rfl rfl ?_
          refine j_as (np := 49) rfl rfl I38 b43 (by decide) (n := 256) rfl rfl (lo := -2147483648) (hi := 2147483647) (fun _ => rfl) (by omega) (by omega) (by omega) ?_
          intro m45 I46 W47
          have F48 : Fr l_14n_3 0 0 g μ m45 := F40.v W47 b43 rfl rfl
          refine w_t (np := 50) (l2 := [some (eR a0), some (eI (3)), some (eI (v18)), some (eI (a2)), some (eI (v30))]) (s2 := [eR a0]) rfl (s_an rfl (pos_g I46 gA0 (by decide))) rfl ?_
          refine w_gf (np := 53) (v := eR rcn) rfl rfl (I46.kd gA0 (by decide) (n := 4) rfl) (by rw [(W47.addr (W39.addr k12 b35 gA0 (by decide)) b43 gA0 (by decide))]; rfl) ?_
          refine w_t (np := 54) (l2 := [some (eR a0), some (eI (3)), some (eI (v18)), some (eI (a2)), some (eI (v30))]) (s2 := [eI (3), eR rcn]) rfl rfl rfl ?_
          refine w_t (np := 55) (l2 := [some (eR a0), some (eI (3)), some (eI (v18)), some (eI (a2)), some (eI (v30))]) (s2 := [eI (3), eR rcn, eI (3), eR rcn]) rfl rfl rfl ?_
          refine j_al (np := 56) rfl rfl I46 grc (by decide) (n := 4) rfl rfl (lo := -1) (hi := 64) (fun _ => rfl) (by decide) (by decide) ?_
          intro v49 e50 b51
          have e50 := e50.symm.trans (W47.addr (W39.addr h9 b35 grc (by decide)) b43 grc (by decide))
          rw [e50]
          refine w_t (np := 57) (l2 := [some (eR a0), some (eI (3)), some (eI (v18)), some (eI (a2)), some (eI (v30))]) (s2 := [eI (1), eI (x8), eI (3), eR rcn]) rfl rfl rfl ?_
          obtain ⟨v52, e53⟩ : ∃ zz : Int, zz = (x8) + (1) := ⟨_, rfl⟩
          have b54 : 1 ≤ v52 ∧ v52 ≤ 64 := by omega
          refine w_t (np := 58) (l2 := [some (eR a0), some (eI (3)), some (eI (v18)), some (eI (a2)), some (eI (v30))]) (s2 := [eI (v52), eI (3), eR rcn]) rfl (b_iadd (by rw [← e53]; exact ev_w_in (by omega) (by omega))) rfl ?_
          refine j_as (np := 59) rfl rfl I46 grc (by decide) (n := 4) rfl rfl (lo := -1) (hi := 64) (fun _ => rfl) (by decide) (by decide) (by omega) ?_
          intro m55 I56 W57
          have F58 : Fr l_14n_3 0 0 g μ m55 := F48.v W57 grc rfl rfl
          refine v_rv rfl rfl ?_
          show ex_q (dt_fg L ρ) rc (d + 2, (14, 115, [some (eR a0), some (eI (3)), some (eI (a2)), some (eI (i3))], []), f :: F, m55)
          obtain ⟨v59, e60⟩ : ∃ zz : Int, zz = (i3) + (1) := ⟨_, rfl⟩
          have b61 : 1 ≤ v59 ∧ v59 ≤ 64 := by omega
          refine w_t (np := 118) (l2 := [some (eR a0), some (eI (3)), some (eI (a2)), some (eI (v59))]) (s2 := []) rfl (b_iinc rfl (by rw [← e60]; exact ev_w_in (by omega) (by omega)) rfl) rfl ?_
          refine w_go (t1 := 90) rfl rfl ?_
          exact ih2 (64 - (v59)).toNat (by omega) m55 (v59) (v52) I56 F58 (by omega) (W57.addr (W47.addr (W39.addr k11 b35 gA0 (by decide)) b43 gA0 (by decide)) grc gA0 (by decide)) (W57.addr (W47.addr (W39.addr k12 b35 gA0 (by decide)) b43 gA0 (by decide)) grc gA0 (by decide)) W57.at (by omega)   rfl
  exact hL90 _ μ (0) (cn0) hI F0 (by decide) ett ecn ecn0 (by omega)   rfl
