/-! methods, walked -/
def l_209 : List Nat := [268, 265, 8971, 8972, 8973, 8968, 8969, 8970, 9216, 9472, 9728]
theorem s_209 {L : Nat} {ρ : Nat → Int} {rc : eQ} {d : Nat} {f : eFr} {F : List eFr} {μ : eM} {g : Nat → Nat} {a0 : Nat} (hI : SI g μ) (gA0 : g a0 = 1) (K : ∀ (g2 : Nat → Nat) (μ2 : eM) (v : Nat), GE g g2 → SI g2 μ2 → Fr l_209 7 8159 g μ μ2 → g2 v = 35 → ex_q (dt_fg L ρ) rc (d + 6, (f.1, f.2.1, f.2.2.1, eR v :: f.2.2.2), F, μ2)) : ex_q (dt_fg L ρ) rc (d + 5, (209, 0, [some (eR a0)], []), f :: F, μ) := by
  have F0 : Fr l_209 0 0 g μ μ := Fr.r
  refine w_t (np := 1) (l2 := [some (eR a0)]) (s2 := [eR a0]) rfl (s_an rfl (pos_g hI gA0 (by decide))) rfl ?_
  refine j_gr (np := 4) rfl rfl hI gA0 (by decide) (n := 14) rfl rfl rfl ?_
  intro v1 e2 b3 z4
  rcases hor2 b3 with b3 | b3
  · have z4 : v1 = 0 := z4 b3
    subst z4
    refine v_nn_f (t1 := 22) rfl rfl rfl ?_
    show ex_q (dt_fg L ρ) rc (d + 5, (209, 7, [some (eR a0)], []), f :: F, μ)
    refine w_t (np := 8) (l2 := [some (eR a0)]) (s2 := [eR a0]) rfl (s_an rfl (pos_g hI gA0 (by decide))) rfl ?_
    refine j_no (np := 11) (n := 15) rfl rfl rfl hI ?_
    intro r5 m6 I7 F8 U9 O10
    have F11 : Fr l_209 1 15 g μ m6 := F0.t F8 rfl
    have U9 : UC g m6 r5 8 15 [0, 0, 0, 0, 0, 0, 0, 0, 0, 0, 0, 0, 0, 0, 0] := U9
    refine w_t (np := 12) (l2 := [some (eR a0)]) (s2 := [eR r5, eR r5, eR a0]) rfl rfl rfl ?_
    refine w_t (np := 13) (l2 := [some (eR a0)]) (s2 := [eR a0, eR r5, eR r5, eR a0]) rfl (s_an rfl (pos_g I7 gA0 (by decide))) rfl ?_
    refine j_gr (np := 16) rfl rfl I7 gA0 (by decide) (n := 14) rfl rfl rfl ?_
    intro v12 e13 b14 z15
    rcases hor2 b14 with b14 | b14
    · refine v_ci (np := 19) (as := [eR v12]) (lv' := [some (eR r5), some (eR v12)]) (rest := [eR r5, eR a0]) rfl rfl rfl (Nat.ble_eq.mp rfl) rfl rfl rfl U9.2.1 rfl ?_
      refine w_t (np := 1) (l2 := [some (eR r5), some (eR v12)]) (s2 := [eR r5]) rfl (s_an rfl (by have := U9.2.1; omega)) rfl ?_
      refine v_oi (np := 4) rfl rfl (by have := U9.2.1; omega) rfl ?_
      refine w_t (np := 5) (l2 := [some (eR r5), some (eR v12)]) (s2 := [eR r5]) rfl (s_an rfl (by have := U9.2.1; omega)) rfl ?_
      refine w_t (np := 6) (l2 := [some (eR r5), some (eR v12)]) (s2 := [eR v12, eR r5]) rfl (s_an rfl (pos_g I7 b14 (by decide))) rfl ?_
      refine j_pu (np := 9) (w := ((v12 : Nat) : Int)) rfl rfl I7 U9 (Nat.ble_eq.mp rfl) rfl ?_
      intro m16 I17 F18 W19 U20
      have F21 : Fr l_209 1 15 g μ m16 := F11.t F18 rfl
      have U20 : UC g m16 r5 8 15 [0, 0, 0, 0, 0, 0, ((v12 : Nat) : Int), 0, 0, 0, 0, 0, 0, 0, 0] := U20
      refine w_t (np := 10) (l2 := [some (eR r5), some (eR v12)]) (s2 := [eR r5]) rfl (s_an rfl (by have := U20.2.1; omega)) rfl ?_
      refine w_t (np := 13) (l2 := [some (eR r5), some (eR v12)]) (s2 := [eI (2670), eR r5]) rfl rfl rfl ?_
      refine j_na (np := 15) (ρ := 36) (lo := -1) (hi := 2669) rfl rfl I17 rfl (by decide) (by decide) (fun _ => rfl) (by decide) rfl ?_
      intro r22 g23 m24 I25 E26 b27 F28 U29 K30
      have F31 : Fr l_209 2 2685 g μ m24 := F21.t F28 rfl
      have U32 : UC g23 m24 r5 8 15 [0, 0, 0, 0, 0, 0, ((v12 : Nat) : Int), 0, 0, 0, 0, 0, 0, 0, 0] := U29 _ _ _ _ U20
      refine j_pu (np := 18) (w := ((r22 : Nat) : Int)) rfl rfl I25 U32 (Nat.ble_eq.mp rfl) rfl ?_
      intro m33 I34 F35 W36 U37
      have F38 : Fr l_209 2 2685 g μ m33 := F31.t3 E26 F35 rfl
      have U37 : UC g23 m33 r5 8 15 [((r22 : Nat) : Int), 0, 0, 0, 0, 0, ((v12 : Nat) : Int), 0, 0, 0, 0, 0, 0, 0, 0] := U37
      refine w_t (np := 19) (l2 := [some (eR r5), some (eR v12)]) (s2 := [eR r5]) rfl (s_an rfl (by have := U37.2.1; omega)) rfl ?_
      refine w_t (np := 22) (l2 := [some (eR r5), some (eR v12)]) (s2 := [eI (512), eR r5]) rfl rfl rfl ?_
      refine j_na (np := 24) (ρ := 37) (lo := -1) (hi := 2669) rfl rfl I34 rfl (by decide) (by decide) (fun _ => rfl) (by decide) rfl ?_
      intro r39 g40 m41 I42 E43 b44 F45 U46 K47
      have F48 : Fr l_209 3 3197 g μ m41 := F38.t3 E26 F45 rfl
      have E49 := E26.t E43
      have U50 : UC g40 m41 r5 8 15 [((r22 : Nat) : Int), 0, 0, 0, 0, 0, ((v12 : Nat) : Int), 0, 0, 0, 0, 0, 0, 0, 0] := U46 _ _ _ _ U37
      refine j_pu (np := 27) (w := ((r39 : Nat) : Int)) rfl rfl I42 U50 (Nat.ble_eq.mp rfl) rfl ?_
      intro m51 I52 F53 W54 U55
      have F56 : Fr l_209 3 3197 g μ m51 := F48.t3 E49 F53 rfl
      have U55 : UC g40 m51 r5 8 15 [((r22 : Nat) : Int), ((r39 : Nat) : Int), 0, 0, 0, 0, ((v12 : Nat) : Int), 0, 0, 0, 0, 0, 0, 0, 0] := U55
      refine w_t (np := 28) (l2 := [some (eR r5), some (eR v12)]) (s2 := [eR r5]) rfl (s_an rfl (by have := U55.2.1; omega)) rfl ?_
      refine w_t (np := 31) (l2 := [some (eR r5), some (eR v12)]) (s2 := [eI (2670), eR r5]) rfl rfl rfl ?_
      refine j_na (np := 33) (ρ := 38) (lo := -1) (hi := 2669) rfl rfl I52 rfl (by decide) (by decide) (fun _ => rfl) (by decide) rfl ?_
      intro r57 g58 m59 I60 E61 b62 F63 U64 K65
      have F66 : Fr l_209 4 5867 g μ m59 := F56.t3 E49 F63 rfl
      have E67 := E49.t E61
      have U68 : UC g58 m59 r5 8 15 [((r22 : Nat) : Int), ((r39 : Nat) : Int), 0, 0, 0, 0, ((v12 : Nat) : Int), 0, 0, 0, 0, 0, 0, 0, 0] := U64 _ _ _ _ U55
      refine j_pu (np := 36) (w := ((r57 : Nat) : Int)) rfl rfl I60 U68 (Nat.ble_eq.mp rfl) rfl ?_
      intro m69 I70 F71 W72 U73
      have F74 : Fr l_209 4 5867 g μ m69 := F66.t3 E67 F71 rfl
      have U73 : UC g58 m69 r5 8 15 [((r22 : Nat) : Int), ((r39 : Nat) : Int), ((r57 : Nat) : Int), 0, 0, 0, ((v12 : Nat) : Int), 0, 0, 0, 0, 0, 0, 0, 0] := U73
      refine w_t (np := 37) (l2 := [some (eR r5), some (eR v12)]) (s2 := [eR r5]) rfl (s_an rfl (by have := U73.2.1; omega)) rfl ?_
      refine w_t (np := 40) (l2 := [some (eR r5), some (eR v12)]) (s2 := [eI (890), eR r5]) rfl rfl rfl ?_
      refine j_na (np := 42) (ρ := 39) (lo := -2147483648) (hi := 2147483647) rfl rfl I70 rfl (by decide) (by decide) (fun _ => rfl) (by decide) rfl ?_
      intro r75 g76 m77 I78 E79 b80 F81 U82 K83
      have F84 : Fr l_209 5 6757 g μ m77 := F74.t3 E67 F81 rfl
      have E85 := E67.t E79
      have U86 : UC g76 m77 r5 8 15 [((r22 : Nat) : Int), ((r39 : Nat) : Int), ((r57 : Nat) : Int), 0, 0, 0, ((v12 : Nat) : Int), 0, 0, 0, 0, 0, 0, 0, 0] := U82 _ _ _ _ U73
      refine j_pu (np := 45) (w := ((r75 : Nat) : Int)) rfl rfl I78 U86 (Nat.ble_eq.mp rfl) rfl ?_
      intro m87 I88 F89 W90 U91
      have F92 : Fr l_209 5 6757 g μ m87 := F84.t3 E85 F89 rfl
      have U91 : UC g76 m87 r5 8 15 [((r22 : Nat) : Int), ((r39 : Nat) : Int), ((r57 : Nat) : Int), ((r75 : Nat) : Int), 0, 0, ((v12 : Nat) : Int), 0, 0, 0, 0, 0, 0, 0, 0] := U91
      refine w_t (np := 46) (l2 := [some (eR r5), some (eR v12)]) (s2 := [eR r5]) rfl (s_an rfl (by have := U91.2.1; omega)) rfl ?_
      refine w_t (np := 49) (l2 := [some (eR r5), some (eR v12)]) (s2 := [eI (890), eR r5]) rfl rfl rfl ?_
      refine j_na (np := 51) (ρ := 40) (lo := 0) (hi := 889) rfl rfl I88 rfl (by decide) (by decide) (fun _ => rfl) (by decide) rfl ?_
      intro r93 g94 m95 I96 E97 b98 F99 U100 K101
      have F102 : Fr l_209 6 7647 g μ m95 := F92.t3 E85 F99 rfl
      have E103 := E85.t E97
      have U104 : UC g94 m95 r5 8 15 [((r22 : Nat) : Int), ((r39 : Nat) : Int), ((r57 : Nat) : Int), ((r75 : Nat) : Int), 0, 0, ((v12 : Nat) : Int), 0, 0, 0, 0, 0, 0, 0, 0] := U100 _ _ _ _ U91
      refine j_pu (np := 54) (w := ((r93 : Nat) : Int)) rfl rfl I96 U104 (Nat.ble_eq.mp rfl) rfl ?_
      intro m105 I106 F107 W108 U109
      have F110 : Fr l_209 6 7647 g μ m105 := F102.t3 E103 F107 rfl
      have U109 : UC g94 m105 r5 8 15 [((r22 : Nat) : Int), ((r39 : Nat) : Int), ((r57 : Nat) : Int), ((r75 : Nat) : Int), ((r93 : Nat) : Int), 0, ((v12 : Nat) : Int), 0, 0, 0, 0, 0, 0, 0, 0] := U109
      refine w_t (np := 55) (l2 := [some (eR r5), some (eR v12)]) (s2 := [eR r5]) rfl (s_an rfl (by have := U109.2.1; omega)) rfl ?_
      refine w_t (np := 58) (l2 := [some (eR r5), some (eR v12)]) (s2 := [eI (512), eR r5]) rfl rfl rfl ?_
      refine j_na (np := 60) (ρ := 41) (lo := -1) (hi := 511) rfl rfl I106 rfl (by decide) (by decide) (fun _ => rfl) (by decide) rfl ?_
      intro r111 g112 m113 I114 E115 b116 F117 U118 K119
      have F120 : Fr l_209 7 8159 g μ m113 := F110.t3 E103 F117 rfl
      have E121 := E103.t E115
      have U122 : UC g112 m113 r5 8 15 [((r22 : Nat) : Int), ((r39 : Nat) : Int), ((r57 : Nat) : Int), ((r75 : Nat) : Int), ((r93 : Nat) : Int), 0, ((v12 : Nat) : Int), 0, 0, 0, 0, 0, 0, 0, 0] := U118 _ _ _ _ U109
      refine j_pu (np := 63) (w := ((r111 : Nat) : Int)) rfl rfl I114 U122 (Nat.ble_eq.mp rfl) rfl ?_
      intro m123 I124 F125 W126 U127
      have F128 : Fr l_209 7 8159 g μ m123 := F120.t3 E121 F125 rfl
      have U127 : UC g112 m123 r5 8 15 [((r22 : Nat) : Int), ((r39 : Nat) : Int), ((r57 : Nat) : Int), ((r75 : Nat) : Int), ((r93 : Nat) : Int), ((r111 : Nat) : Int), ((v12 : Nat) : Int), 0, 0, 0, 0, 0, 0, 0, 0] := U127
      refine v_rv rfl rfl ?_
      show ex_q (dt_fg L ρ) rc (d + 5, (209, 19, [some (eR a0)], [eR r5, eR a0]), f :: F, m123)
      obtain ⟨g129, I130, E131, b132⟩ := U127.pb (ρ := 35) I124 (by decide) (by decide) rfl (fun k hk => match k, hk with
        | 0, _ => hO_r (b := r22) rfl (by rw [(E115.g (E97.g (E79.g (E61.g (E43.g b27 (by decide)) (by decide)) (by decide)) (by decide)) (by decide))]; rfl) (fun q => absurd q (by rw [(E115.g (E97.g (E79.g (E61.g (E43.g b27 (by decide)) (by decide)) (by decide)) (by decide)) (by decide))]; decide))
        | 1, _ => hO_r (b := r39) rfl (by rw [(E115.g (E97.g (E79.g (E61.g b44 (by decide)) (by decide)) (by decide)) (by decide))]; rfl) (fun q => absurd q (by rw [(E115.g (E97.g (E79.g (E61.g b44 (by decide)) (by decide)) (by decide)) (by decide))]; decide))
        | 2, _ => hO_r (b := r57) rfl (by rw [(E115.g (E97.g (E79.g b62 (by decide)) (by decide)) (by decide))]; rfl) (fun q => absurd q (by rw [(E115.g (E97.g (E79.g b62 (by decide)) (by decide)) (by decide))]; decide))
        | 3, _ => hO_r (b := r75) rfl (by rw [(E115.g (E97.g b80 (by decide)) (by decide))]; rfl) (fun q => absurd q (by rw [(E115.g (E97.g b80 (by decide)) (by decide))]; decide))
        | 4, _ => hO_r (b := r93) rfl (by rw [(E115.g b98 (by decide))]; rfl) (fun q => absurd q (by rw [(E115.g b98 (by decide))]; decide))
        | 5, _ => hO_r (b := r111) rfl (by rw [b116]; rfl) (fun q => absurd q (by rw [b116]; decide))
        | 6, _ => hO_r (b := v12) rfl (by rw [(E115.g (E97.g (E79.g (E61.g (E43.g (E26.g b14 (by decide)) (by decide)) (by decide)) (by decide)) (by decide)) (by decide))]; rfl) (fun q => absurd q (by rw [(E115.g (E97.g (E79.g (E61.g (E43.g (E26.g b14 (by decide)) (by decide)) (by decide)) (by decide)) (by decide)) (by decide))]; decide))
        | 7, _ => hO_i (x := 0) (lo := -2147483648) (hi := 2147483647) rfl (by decide)
        | 8, _ => hO_i (x := 0) (lo := -2147483648) (hi := 2147483647) rfl (by decide)
        | 9, _ => hO_i (x := 0) (lo := -2147483648) (hi := 2147483647) rfl (by decide)
        | 10, _ => hO_i (x := 0) (lo := -2147483648) (hi := 2147483647) rfl (by decide)
        | 11, _ => hO_i (x := 0) (lo := -2147483648) (hi := 2147483647) rfl (by decide)
        | 12, _ => hO_i (x := 0) (lo := -2147483648) (hi := 2147483647) rfl (by decide)
        | 13, _ => hO_i (x := 0) (lo := -2147483648) (hi := 2147483647) rfl (by decide)
        | 14, _ => hO_i (x := 0) (lo := -2147483648) (hi := 2147483647) rfl (by decide)
        | k + 15, hk => absurd hk (by omega))
      have E133 := E121.t E131
      refine j_pf (np := 22) (w := ((r5 : Nat) : Int)) rfl rfl I130 (E131.g (E115.g (E97.g (E79.g (E61.g (E43.g (E26.g gA0 (by decide)) (by decide)) (by decide)) (by decide)) (by decide)) (by decide)) (by decide)) (by decide) (n := 14) rfl rfl (hO_r rfl (by rw [b132]; rfl) (fun q => absurd q (by rw [b132]; decide))) ?_
      intro m134 I135 W136
      have F137 : Fr l_209 7 8159 g μ m134 := F128.w3 E133 W136 (E131.g (E115.g (E97.g (E79.g (E61.g (E43.g (E26.g gA0 (by decide)) (by decide)) (by decide)) (by decide)) (by decide)) (by decide)) (by decide)) rfl
      refine w_t (np := 23) (l2 := [some (eR a0)]) (s2 := [eR a0]) rfl (s_an rfl (pos_g I135 (E131.g (E115.g (E97.g (E79.g (E61.g (E43.g (E26.g gA0 (by decide)) (by decide)) (by decide)) (by decide)) (by decide)) (by decide)) (by decide)) (by decide))) rfl ?_
      refine j_gi (np := 26) rfl rfl rfl I135 (E131.g (E115.g (E97.g (E79.g (E61.g (E43.g (E26.g gA0 (by decide)) (by decide)) (by decide)) (by decide)) (by decide)) (by decide)) (by decide)) (by decide) (n := 14) rfl rfl (lo := 0) (hi := 1) rfl ?_
      intro v138 e139 b140
      refine b_ine (t1 := 41) (t2 := 29) rfl rfl rfl (ev_w_in (by omega) (by omega)) (fun g141 => ?_) (fun g141 => ?_)
      · have b142 : 1 ≤ v138 ∧ v138 ≤ 1 := by omega
        refine w_t (np := 42) (l2 := [some (eR a0)]) (s2 := [eR a0]) rfl (s_an rfl (pos_g I135 (E131.g (E115.g (E97.g (E79.g (E61.g (E43.g (E26.g gA0 (by decide)) (by decide)) (by decide)) (by decide)) (by decide)) (by decide)) (by decide)) (by decide))) rfl ?_
        refine w_gf (np := 45) (v := eR r5) rfl rfl (I135.kd (E131.g (E115.g (E97.g (E79.g (E61.g (E43.g (E26.g gA0 (by decide)) (by decide)) (by decide)) (by decide)) (by decide)) (by decide)) (by decide)) (by decide) (n := 14) rfl) (by rw [W136.at]; rfl) ?_
        exact v_ra rfl rfl (K g129 m134 r5 E133 I135 F137 b132)
      · have b142 : 0 ≤ v138 ∧ v138 ≤ 0 := by omega
        refine w_t (np := 30) (l2 := [some (eR a0)]) (s2 := [eR a0]) rfl (s_an rfl (pos_g I135 (E131.g (E115.g (E97.g (E79.g (E61.g (E43.g (E26.g gA0 (by decide)) (by decide)) (by decide)) (by decide)) (by decide)) (by decide)) (by decide)) (by decide))) rfl ?_
        refine w_gf (np := 33) (v := eR r5) rfl rfl (I135.kd (E131.g (E115.g (E97.g (E79.g (E61.g (E43.g (E26.g gA0 (by decide)) (by decide)) (by decide)) (by decide)) (by decide)) (by decide)) (by decide)) (by decide) (n := 14) rfl) (by rw [W136.at]; rfl) ?_
        refine w_cw (np := 36) (as := []) (l2 := [some (eR r5), none]) (rest := []) rfl rfl rfl (Nat.ble_eq.mp rfl) rfl rfl rfl (I135.kd b132 (by decide) (n := 15) rfl) rfl ?_
        refine s_107 I135 b132 ?_
        intro m142 I143 F144
        have F145 : Fr l_209 7 8159 g μ m142 := F137.t3 E133 F144 rfl
        show ex_q (dt_fg L ρ) rc (d + 5, (209, 36, [some (eR a0)], []), f :: F, m142)
        refine w_t (np := 37) (l2 := [some (eR a0)]) (s2 := [eR a0]) rfl (s_an rfl (pos_g I143 (E131.g (E115.g (E97.g (E79.g (E61.g (E43.g (E26.g gA0 (by decide)) (by decide)) (by decide)) (by decide)) (by decide)) (by decide)) (by decide)) (by decide))) rfl ?_
        refine w_t (np := 38) (l2 := [some (eR a0)]) (s2 := [eI (1), eR a0]) rfl rfl rfl ?_
        refine j_pf (np := 41) (w := 1) rfl rfl I143 (E131.g (E115.g (E97.g (E79.g (E61.g (E43.g (E26.g gA0 (by decide)) (by decide)) (by decide)) (by decide)) (by decide)) (by decide)) (by decide)) (by decide) (n := 14) rfl rfl (hO_i (lo := 0) (hi := 1) rfl (by decide)) ?_
        intro m146 I147 W148
        have F149 : Fr l_209 7 8159 g μ m146 := F145.w3 E133 W148 (E131.g (E115.g (E97.g (E79.g (E61.g (E43.g (E26.g gA0 (by decide)) (by decide)) (by decide)) (by decide)) (by decide)) (by decide)) (by decide)) rfl
        refine w_t (np := 42) (l2 := [some (eR a0)]) (s2 := [eR a0]) rfl (s_an rfl (pos_g I147 (E131.g (E115.g (E97.g (E79.g (E61.g (E43.g (E26.g gA0 (by decide)) (by decide)) (by decide)) (by decide)) (by decide)) (by decide)) (by decide)) (by decide))) rfl ?_
        refine w_gf (np := 45) (v := eR r5) rfl rfl (I147.kd (E131.g (E115.g (E97.g (E79.g (E61.g (E43.g (E26.g gA0 (by decide)) (by decide)) (by decide)) (by decide)) (by decide)) (by decide)) (by decide)) (by decide) (n := 14) rfl) (by rw [(W148.slot (F144.k W136.at (E131.g (E115.g (E97.g (E79.g (E61.g (E43.g (E26.g gA0 (by decide)) (by decide)) (by decide)) (by decide)) (by decide)) (by decide)) (by decide)) (by decide) rfl) (by decide))]; rfl) ?_
        exact v_ra rfl rfl (K g129 m146 r5 E133 I147 F149 b132)
    · refine v_ci (np := 19) (as := [eR v12]) (lv' := [some (eR r5), some (eR v12)]) (rest := [eR r5, eR a0]) rfl rfl rfl (Nat.ble_eq.mp rfl) rfl rfl rfl U9.2.1 rfl ?_
      refine w_t (np := 1) (l2 := [some (eR r5), some (eR v12)]) (s2 := [eR r5]) rfl (s_an rfl (by have := U9.2.1; omega)) rfl ?_
      refine v_oi (np := 4) rfl rfl (by have := U9.2.1; omega) rfl ?_
      refine w_t (np := 5) (l2 := [some (eR r5), some (eR v12)]) (s2 := [eR r5]) rfl (s_an rfl (by have := U9.2.1; omega)) rfl ?_
      refine w_t (np := 6) (l2 := [some (eR r5), some (eR v12)]) (s2 := [eR v12, eR r5]) rfl (s_an rfl (pos_g I7 b14 (by decide))) rfl ?_
      refine j_pu (np := 9) (w := ((v12 : Nat) : Int)) rfl rfl I7 U9 (Nat.ble_eq.mp rfl) rfl ?_
      intro m16 I17 F18 W19 U20
      have F21 : Fr l_209 1 15 g μ m16 := F11.t F18 rfl
      have U20 : UC g m16 r5 8 15 [0, 0, 0, 0, 0, 0, ((v12 : Nat) : Int), 0, 0, 0, 0, 0, 0, 0, 0] := U20
      refine w_t (np := 10) (l2 := [some (eR r5), some (eR v12)]) (s2 := [eR r5]) rfl (s_an rfl (by have := U20.2.1; omega)) rfl ?_
      refine w_t (np := 13) (l2 := [some (eR r5), some (eR v12)]) (s2 := [eI (2670), eR r5]) rfl rfl rfl ?_
      refine j_na (np := 15) (ρ := 36) (lo := -1) (hi := 2669) rfl rfl I17 rfl (by decide) (by decide) (fun _ => rfl) (by decide) rfl ?_
      intro r22 g23 m24 I25 E26 b27 F28 U29 K30
      have F31 : Fr l_209 2 2685 g μ m24 := F21.t F28 rfl
      have U32 : UC g23 m24 r5 8 15 [0, 0, 0, 0, 0, 0, ((v12 : Nat) : Int), 0, 0, 0, 0, 0, 0, 0, 0] := U29 _ _ _ _ U20
      refine j_pu (np := 18) (w := ((r22 : Nat) : Int)) rfl rfl I25 U32 (Nat.ble_eq.mp rfl) rfl ?_
      intro m33 I34 F35 W36 U37
      have F38 : Fr l_209 2 2685 g μ m33 := F31.t3 E26 F35 rfl
      have U37 : UC g23 m33 r5 8 15 [((r22 : Nat) : Int), 0, 0, 0, 0, 0, ((v12 : Nat) : Int), 0, 0, 0, 0, 0, 0, 0, 0] := U37
      refine w_t (np := 19) (l2 := [some (eR r5), some (eR v12)]) (s2 := [eR r5]) rfl (s_an rfl (by have := U37.2.1; omega)) rfl ?_
      refine w_t (np := 22) (l2 := [some (eR r5), some (eR v12)]) (s2 := [eI (512), eR r5]) rfl rfl rfl ?_
      refine j_na (np := 24) (ρ := 37) (lo := -1) (hi := 2669) rfl rfl I34 rfl (by decide) (by decide) (fun _ => rfl) (by decide) rfl ?_
      intro r39 g40 m41 I42 E43 b44 F45 U46 K47
      have F48 : Fr l_209 3 3197 g μ m41 := F38.t3 E26 F45 rfl
      have E49 := E26.t E43
      have U50 : UC g40 m41 r5 8 15 [((r22 : Nat) : Int), 0, 0, 0, 0, 0, ((v12 : Nat) : Int), 0, 0, 0, 0, 0, 0, 0, 0] := U46 _ _ _ _ U37
      refine j_pu (np := 27) (w := ((r39 : Nat) : Int)) rfl rfl I42 U50 (Nat.ble_eq.mp rfl) rfl ?_
      intro m51 I52 F53 W54 U55
      have F56 : Fr l_209 3 3197 g μ m51 := F48.t3 E49 F53 rfl
      have U55 : UC g40 m51 r5 8 15 [((r22 : Nat) : Int), ((r39 : Nat) : Int), 0, 0, 0, 0, ((v12 : Nat) : Int), 0, 0, 0, 0, 0, 0, 0, 0] := U55
      refine w_t (np := 28) (l2 := [some (eR r5), some (eR v12)]) (s2 := [eR r5]) rfl (s_an rfl (by have := U55.2.1; omega)) rfl ?_
      refine w_t (np := 31) (l2 := [some (eR r5), some (eR v12)]) (s2 := [eI (2670), eR r5]) rfl rfl rfl ?_
      refine j_na (np := 33) (ρ := 38) (lo := -1) (hi := 2669) rfl rfl I52 rfl (by decide) (by decide) (fun _ => rfl) (by decide) rfl ?_
      intro r57 g58 m59 I60 E61 b62 F63 U64 K65
      have F66 : Fr l_209 4 5867 g μ m59 := F56.t3 E49 F63 rfl
      have E67 := E49.t E61
      have U68 : UC g58 m59 r5 8 15 [((r22 : Nat) : Int), ((r39 : Nat) : Int), 0, 0, 0, 0, ((v12 : Nat) : Int), 0, 0, 0, 0, 0, 0, 0, 0] := U64 _ _ _ _ U55
      refine j_pu (np := 36) (w := ((r57 : Nat) : Int)) rfl rfl I60 U68 (Nat.ble_eq.mp rfl) rfl ?_
      intro m69 I70 F71 W72 U73
      have F74 : Fr l_209 4 5867 g μ m69 := F66.t3 E67 F71 rfl
      have U73 : UC g58 m69 r5 8 15 [((r22 : Nat) : Int), ((r39 : Nat) : Int), ((r57 : Nat) : Int), 0, 0, 0, ((v12 : Nat) : Int), 0, 0, 0, 0, 0, 0, 0, 0] := U73
      refine w_t (np := 37) (l2 := [some (eR r5), some (eR v12)]) (s2 := [eR r5]) rfl (s_an rfl (by have := U73.2.1; omega)) rfl ?_
      refine w_t (np := 40) (l2 := [some (eR r5), some (eR v12)]) (s2 := [eI (890), eR r5]) rfl rfl rfl ?_
      refine j_na (np := 42) (ρ := 39) (lo := -2147483648) (hi := 2147483647) rfl rfl I70 rfl (by decide) (by decide) (fun _ => rfl) (by decide) rfl ?_
      intro r75 g76 m77 I78 E79 b80 F81 U82 K83
      have F84 : Fr l_209 5 6757 g μ m77 := F74.t3 E67 F81 rfl
      have E85 := E67.t E79
      have U86 : UC g76 m77 r5 8 15 [((r22 : Nat) : Int), ((r39 : Nat) : Int), ((r57 : Nat) : Int), 0, 0, 0, ((v12 : Nat) : Int), 0, 0, 0, 0, 0, 0, 0, 0] := U82 _ _ _ _ U73
      refine j_pu (np := 45) (w := ((r75 : Nat) : Int)) rfl rfl I78 U86 (Nat.ble_eq.mp rfl) rfl ?_
      intro m87 I88 F89 W90 U91
      have F92 : Fr l_209 5 6757 g μ m87 := F84.t3 E85 F89 rfl
      have U91 : UC g76 m87 r5 8 15 [((r22 : Nat) : Int), ((r39 : Nat) : Int), ((r57 : Nat) : Int), ((r75 : Nat) : Int), 0, 0, ((v12 : Nat) : Int), 0, 0, 0, 0, 0, 0, 0, 0] := U91
      refine w_t (np := 46) (l2 := [some (eR r5), some (eR v12)]) (s2 := [eR r5]) rfl (s_an rfl (by have := U91.2.1; omega)) rfl ?_
      refine w_t (np := 49) (l2 := [some (eR r5), some (eR v12)]) (s2 := [eI (890), eR r5]) rfl rfl rfl ?_
      refine j_na (np := 51) (ρ := 40) (lo := 0) (hi := 889) rfl rfl I88 rfl (by decide) (by decide) (fun _ => rfl) (by decide) rfl ?_
      intro r93 g94 m95 I96 E97 b98 F99 U100 K101
      have F102 : Fr l_209 6 7647 g μ m95 := F92.t3 E85 F99 rfl
      have E103 := E85.t E97
      have U104 : UC g94 m95 r5 8 15 [((r22 : Nat) : Int), ((r39 : Nat) : Int), ((r57 : Nat) : Int), ((r75 : Nat) : Int), 0, 0, ((v12 : Nat) : Int), 0, 0, 0, 0, 0, 0, 0, 0] := U100 _ _ _ _ U91
      refine j_pu (np := 54) (w := ((r93 : Nat) : Int)) rfl rfl I96 U104 (Nat.ble_eq.mp rfl) rfl ?_
      intro m105 I106 F107 W108 U109
      have F110 : Fr l_209 6 7647 g μ m105 := F102.t3 E103 F107 rfl
      have U109 : UC g94 m105 r5 8 15 [((r22 : Nat) : Int), ((r39 : Nat) : Int), ((r57 : Nat) : Int), ((r75 : Nat) : Int), ((r93 : Nat) : Int), 0, ((v12 : Nat) : Int), 0, 0, 0, 0, 0, 0, 0, 0] := U109
      refine w_t (np := 55) (l2 := [some (eR r5), some (eR v12)]) (s2 := [eR r5]) rfl (s_an rfl (by have := U109.2.1; omega)) rfl ?_
      refine w_t (np := 58) (l2 := [some (eR r5), some (eR v12)]) (s2 := [eI (512), eR r5]) rfl rfl rfl ?_
      refine j_na (np := 60) (ρ := 41) (lo := -1) (hi := 511) rfl rfl I106 rfl (by decide) (by decide) (fun _ => rfl) (by decide) rfl ?_
      intro r111 g112 m113 I114 E115 b116 F117 U118 K119
      have F120 : Fr l_209 7 8159 g μ m113 := F110.t3 E103 F117 rfl
      have E121 := E103.t E115
      have U122 : UC g112 m113 r5 8 15 [((r22 : Nat) : Int), ((r39 : Nat) : Int), ((r57 : Nat) : Int), ((r75 : Nat) : Int), ((r93 : Nat) : Int), 0, ((v12 : Nat) : Int), 0, 0, 0, 0, 0, 0, 0, 0] := U118 _ _ _ _ U109
      refine j_pu (np := 63) (w := ((r111 : Nat) : Int)) rfl rfl I114 U122 (Nat.ble_eq.mp rfl) rfl ?_
      intro m123 I124 F125 W126 U127
      have F128 : Fr l_209 7 8159 g μ m123 := F120.t3 E121 F125 rfl
      have U127 : UC g112 m123 r5 8 15 [((r22 : Nat) : Int), ((r39 : Nat) : Int), ((r57 : Nat) : Int), ((r75 : Nat) : Int), ((r93 : Nat) : Int), ((r111 : Nat) : Int), ((v12 : Nat) : Int), 0, 0, 0, 0, 0, 0, 0, 0] := U127
      refine v_rv rfl rfl ?_
      show ex_q (dt_fg L ρ) rc (d + 5, (209, 19, [some (eR a0)], [eR r5, eR a0]), f :: F, m123)
      obtain ⟨g129, I130, E131, b132⟩ := U127.pb (ρ := 35) I124 (by decide) (by decide) rfl (fun k hk => match k, hk with
        | 0, _ => hO_r (b := r22) rfl (by rw [(E115.g (E97.g (E79.g (E61.g (E43.g b27 (by decide)) (by decide)) (by decide)) (by decide)) (by decide))]; rfl) (fun q => absurd q (by rw [(E115.g (E97.g (E79.g (E61.g (E43.g b27 (by decide)) (by decide)) (by decide)) (by decide)) (by decide))]; decide))
        | 1, _ => hO_r (b := r39) rfl (by rw [(E115.g (E97.g (E79.g (E61.g b44 (by decide)) (by decide)) (by decide)) (by decide))]; rfl) (fun q => absurd q (by rw [(E115.g (E97.g (E79.g (E61.g b44 (by decide)) (by decide)) (by decide)) (by decide))]; decide))
        | 2, _ => hO_r (b := r57) rfl (by rw [(E115.g (E97.g (E79.g b62 (by decide)) (by decide)) (by decide))]; rfl) (fun q => absurd q (by rw [(E115.g (E97.g (E79.g b62 (by decide)) (by decide)) (by decide))]; decide))
        | 3, _ => hO_r (b := r75) rfl (by rw [(E115.g (E97.g b80 (by decide)) (by decide))]; rfl) (fun q => absurd q (by rw [(E115.g (E97.g b80 (by decide)) (by decide))]; decide))
        | 4, _ => hO_r (b := r93) rfl (by rw [(E115.g b98 (by decide))]; rfl) (fun q => absurd q (by rw [(E115.g b98 (by decide))]; decide))
        | 5, _ => hO_r (b := r111) rfl (by rw [b116]; rfl) (fun q => absurd q (by rw [b116]; decide))
        | 6, _ => hO_r (b := v12) rfl (by rw [(E115.g (E97.g (E79.g (E61.g (E43.g (E26.g b14 (by decide)) (by decide)) (by decide)) (by decide)) (by decide)) (by decide))]; rfl) (fun q => absurd q (by rw [(E115.g (E97.g (E79.g (E61.g (E43.g (E26.g b14 (by decide)) (by decide)) (by decide)) (by decide)) (by decide)) (by decide))]; decide))
        | 7, _ => hO_i (x := 0) (lo := -2147483648) (hi := 2147483647) rfl (by decide)
        | 8, _ => hO_i (x := 0) (lo := -2147483648) (hi := 2147483647) rfl (by decide)
        | 9, _ => hO_i (x := 0) (lo := -2147483648) (hi := 2147483647) rfl (by decide)
        | 10, _ => hO_i (x := 0) (lo := -2147483648) (hi := 2147483647) rfl (by decide)
        | 11, _ => hO_i (x := 0) (lo := -2147483648) (hi := 2147483647) rfl (by decide)
        | 12, _ => hO_i (x := 0) (lo := -2147483648) (hi := 2147483647) rfl (by decide)
        | 13, _ => hO_i (x := 0) (lo := -2147483648) (hi := 2147483647) rfl (by decide)
        | 14, _ => hO_i (x := 0) (lo := -2147483648) (hi := 2147483647) rfl (by decide)
        | k + 15, hk => absurd hk (by omega))
      have E133 := E121.t E131
      refine j_pf (np := 22) (w := ((r5 : Nat) : Int)) rfl rfl I130 (E131.g (E115.g (E97.g (E79.g (E61.g (E43.g (E26.g gA0 (by decide)) (by decide)) (by decide)) (by decide)) (by decide)) (by decide)) (by decide)) (by decide) (n := 14) rfl rfl (hO_r rfl (by rw [b132]; rfl) (fun q => absurd q (by rw [b132]; decide))) ?_
      intro m134 I135 W136
      have F137 : Fr l_209 7 8159 g μ m134 := F128.w3 E133 W136 (E131.g (E115.g (E97.g (E79.g (E61.g (E43.g (E26.g gA0 (by decide)) (by decide)) (by decide)) (by decide)) (by decide)) (by decide)) (by decide)) rfl
      refine w_t (np := 23) (l2 := [some (eR a0)]) (s2 := [eR a0]) rfl (s_an rfl (pos_g I135 (E131.g (E115.g (E97.g (E79.g (E61.g (E43.g (E26.g gA0 (by decide)) (by decide)) (by decide)) (by decide)) (by decide)) (by decide)) (by decide)) (by decide))) rfl ?_
      refine j_gi (np := 26) rfl rfl rfl I135 (E131.g (E115.g (E97.g (E79.g (E61.g (E43.g (E26.g gA0 (by decide)) (by decide)) (by decide)) (by decide)) (by decide)) (by decide)) (by decide)) (by decide) (n := 14) rfl rfl (lo := 0) (hi := 1) rfl ?_
      intro v138 e139 b140
      refine b_ine (t1 := 41) (t2 := 29) rfl rfl rfl (ev_w_in (by omega) (by omega)) (fun g141 => ?_) (fun g141 => ?_)
      · have b142 : 1 ≤ v138 ∧ v138 ≤ 1 := by omega
        refine w_t (np := 42) (l2 := [some (eR a0)]) (s2 := [eR a0]) rfl (s_an rfl (pos_g I135 (E131.g (E115.g (E97.g (E79.g (E61.g (E43.g (E26.g gA0 (by decide)) (by decide)) (by decide)) (by decide)) (by decide)) (by decide)) (by decide)) (by decide))) rfl ?_
        refine w_gf (np := 45) (v := eR r5) rfl rfl (I135.kd (E131.g (E115.g (E97.g (E79.g (E61.g (E43.g (E26.g gA0 (by decide)) (by decide)) (by decide)) (by decide)) (by decide)) (by decide)) (by decide)) (by decide) (n := 14) rfl) (by rw [W136.at]; rfl) ?_
        exact v_ra rfl rfl (K g129 m134 r5 E133 I135 F137 b132)
      · have b142 : 0 ≤ v138 ∧ v138 ≤ 0 := by omega
        refine w_t (np := 30) (l2 := [some (eR a0)]) (s2 := [eR a0]) rfl (s_an rfl (pos_g I135 (E131.g (E115.g (E97.g (E79.g (E61.g (E43.g (E26.g gA0 (by decide)) (by decide)) (by decide)) (by decide)) (by decide)) (by decide)) (by decide)) (by decide))) rfl ?_
        refine w_gf (np := 33) (v := eR r5) rfl rfl (I135.kd (E131.g (E115.g (E97.g (E79.g (E61.g (E43.g (E26.g gA0 (by decide)) (by decide)) (by decide)) (by decide)) (by decide)) (by decide)) (by decide)) (by decide) (n := 14) rfl) (by rw [W136.at]; rfl) ?_
        refine w_cw (np := 36) (as := []) (l2 := [some (eR r5), none]) (rest := []) rfl rfl rfl (Nat.ble_eq.mp rfl) rfl rfl rfl (I135.kd b132 (by decide) (n := 15) rfl) rfl ?_
        refine s_107 I135 b132 ?_
        intro m142 I143 F144
        have F145 : Fr l_209 7 8159 g μ m142 := F137.t3 E133 F144 rfl
        show ex_q (dt_fg L ρ) rc (d + 5, (209, 36, [some (eR a0)], []), f :: F, m142)
        refine w_t (np := 37) (l2 := [some (eR a0)]) (s2 := [eR a0]) rfl (s_an rfl (pos_g I143 (E131.g (E115.g (E97.g (E79.g (E61.g (E43.g (E26.g gA0 (by decide)) (by decide)) (by decide)) (by decide)) (by decide)) (by decide)) (by decide)) (by decide))) rfl ?_
        refine w_t (np := 38) (l2 := [some (eR a0)]) (s2 := [eI (1), eR a0]) rfl rfl rfl ?_
        refine j_pf (np := 41) (w := 1) rfl rfl I143 (E131.g (E115.g (E97.g (E79.g (E61.g (E43.g (E26.g gA0 (by decide)) (by decide)) (by decide)) (by decide)) (by decide)) (by decide)) (by decide)) (by decide) (n := 14) rfl rfl (hO_i (lo := 0) (hi := 1) rfl (by decide)) ?_
        intro m146 I147 W148
        have F149 : Fr l_209 7 8159 g μ m146 := F145.w3 E133 W148 (E131.g (E115.g (E97.g (E79.g (E61.g (E43.g (E26.g gA0 (by decide)) (by decide)) (by decide)) (by decide)) (by decide)) (by decide)) (by decide)) rfl
        refine w_t (np := 42) (l2 := [some (eR a0)]) (s2 := [eR a0]) rfl (s_an rfl (pos_g I147 (E131.g (E115.g (E97.g (E79.g (E61.g (E43.g (E26.g gA0 (by decide)) (by decide)) (by decide)) (by decide)) (by decide)) (by decide)) (by decide)) (by decide))) rfl ?_
        refine w_gf (np := 45) (v := eR r5) rfl rfl (I147.kd (E131.g (E115.g (E97.g (E79.g (E61.g (E43.g (E26.g gA0 (by decide)) (by decide)) (by decide)) (by decide)) (by decide)) (by decide)) (by decide)) (by decide) (n := 14) rfl) (by rw [(W148.slot (F144.k W136.at (E131.g (E115.g (E97.g (E79.g (E61.g (E43.g (E26.g gA0 (by decide)) (by decide)) (by decide)) (by decide)) (by decide)) (by decide)) (by decide)) (by decide) rfl) (by decide))]; rfl) ?_
        exact v_ra rfl rfl (K g129 m146 r5 E133 I147 F149 b132)
  · refine v_nn_t (t1 := 22) rfl rfl (beq_g hI b3 (by decide)) ?_
    refine w_t (np := 23) (l2 := [some (eR a0)]) (s2 := [eR a0]) rfl (s_an rfl (pos_g hI gA0 (by decide))) rfl ?_
    refine j_gi (np := 26) rfl rfl rfl hI gA0 (by decide) (n := 14) rfl rfl (lo := 0) (hi := 1) rfl ?_
    intro v5 e6 b7
    refine b_ine (t1 := 41) (t2 := 29) rfl rfl rfl (ev_w_in (by omega) (by omega)) (fun g8 => ?_) (fun g8 => ?_)
    · have b9 : 1 ≤ v5 ∧ v5 ≤ 1 := by omega
      refine w_t (np := 42) (l2 := [some (eR a0)]) (s2 := [eR a0]) rfl (s_an rfl (pos_g hI gA0 (by decide))) rfl ?_
      refine w_gf (np := 45) (v := eR v1) rfl rfl (hI.kd gA0 (by decide) (n := 14) rfl) (by rw [e2]; rfl) ?_
      exact v_ra rfl rfl (K g μ v1 hI.re hI (F0.up rfl rfl) b3)
    · have b9 : 0 ≤ v5 ∧ v5 ≤ 0 := by omega
      refine w_t (np := 30) (l2 := [some (eR a0)]) (s2 := [eR a0]) rfl (s_an rfl (pos_g hI gA0 (by decide))) rfl ?_
      refine w_gf (np := 33) (v := eR v1) rfl rfl (hI.kd gA0 (by decide) (n := 14) rfl) (by rw [e2]; rfl) ?_
      refine w_cw (np := 36) (as := []) (l2 := [some (eR v1), none]) (rest := []) rfl rfl rfl (Nat.ble_eq.mp rfl) rfl rfl rfl (hI.kd b3 (by decide) (n := 15) rfl) rfl ?_
      refine s_107 hI b3 ?_
      intro m9 I10 F11
      have F12 : Fr l_209 0 0 g μ m9 := F0.t F11 rfl
      show ex_q (dt_fg L ρ) rc (d + 5, (209, 36, [some (eR a0)], []), f :: F, m9)
      refine w_t (np := 37) (l2 := [some (eR a0)]) (s2 := [eR a0]) rfl (s_an rfl (pos_g I10 gA0 (by decide))) rfl ?_
      refine w_t (np := 38) (l2 := [some (eR a0)]) (s2 := [eI (1), eR a0]) rfl rfl rfl ?_
      refine j_pf (np := 41) (w := 1) rfl rfl I10 gA0 (by decide) (n := 14) rfl rfl (hO_i (lo := 0) (hi := 1) rfl (by decide)) ?_
      intro m13 I14 W15
      have F16 : Fr l_209 0 0 g μ m13 := F12.w W15 gA0 rfl
      refine w_t (np := 42) (l2 := [some (eR a0)]) (s2 := [eR a0]) rfl (s_an rfl (pos_g I14 gA0 (by decide))) rfl ?_
      refine w_gf (np := 45) (v := eR v1) rfl rfl (I14.kd gA0 (by decide) (n := 14) rfl) (by rw [(W15.slot (F11.k e2 gA0 (by decide) rfl) (by decide))]; rfl) ?_
      exact v_ra rfl rfl (K g m13 v1 I14.re I14 (F16.up rfl rfl) b3)
def l_210 : List Nat := [10760, 10761, 10762, 12032, 11776, 11520, 11264, 11008, 268, 269, 265, 266, 8971, 8972, 8973, 8968, 8969, 8970, 9216, 9472, 9728]
theorem s_210 {L : Nat} {ρ : Nat → Int} {rc : eQ} {d : Nat} {f : eFr} {F : List eFr} {μ : eM} {g : Nat → Nat} {a0 : Nat} (hI : SI g μ) (gA0 : g a0 = 1) (K : ∀ (g2 : Nat → Nat) (μ2 : eM) (v : Nat), GE g g2 → SI g2 μ2 → Fr l_210 13 10281 g μ μ2 → g2 v = 42 → ex_q (dt_fg L ρ) rc (d + 7, (f.1, f.2.1, f.2.2.1, eR v :: f.2.2.2), F, μ2)) : ex_q (dt_fg L ρ) rc (d + 6, (210, 0, [some (eR a0), none], []), f :: F, μ) := by
  have F0 : Fr l_210 0 0 g μ μ := Fr.r
  refine w_t (np := 1) (l2 := [some (eR a0), none]) (s2 := [eR a0]) rfl (s_an rfl (pos_g hI gA0 (by decide))) rfl ?_
  refine w_cw (np := 4) (as := []) (l2 := [some (eR a0)]) (rest := []) rfl rfl rfl (Nat.ble_eq.mp rfl) rfl rfl rfl (hI.kd gA0 (by decide) (n := 14) rfl) rfl ?_
  refine s_209 hI gA0 ?_
  intro g1 m2 v6 E3 I4 F5 b7
  have F8 : Fr l_210 7 8159 g μ m2 := F0.t F5 rfl
  show ex_q (dt_fg L ρ) rc (d + 6, (210, 4, [some (eR a0), none], [eR v6]), f :: F, m2)
  refine w_t (np := 5) (l2 := [some (eR a0), some (eR v6)]) (s2 := []) rfl (s_sn (Nat.ble_eq.mp rfl) (pos_g I4 b7 (by decide)) rfl) rfl ?_
  refine w_t (np := 6) (l2 := [some (eR a0), some (eR v6)]) (s2 := [eR a0]) rfl (s_an rfl (pos_g I4 (E3.g gA0 (by decide)) (by decide))) rfl ?_
  refine j_gr (np := 9) rfl rfl I4 (E3.g gA0 (by decide)) (by decide) (n := 14) rfl rfl rfl ?_
  intro v9 e10 b11 z12
  rcases hor2 b11 with b11 | b11
  · have z12 : v9 = 0 := z12 b11
    subst z12
    refine v_nn_f (t1 := 28) rfl rfl rfl ?_
    show ex_q (dt_fg L ρ) rc (d + 6, (210, 12, [some (eR a0), some (eR v6)], []), f :: F, m2)
    refine w_t (np := 13) (l2 := [some (eR a0), some (eR v6)]) (s2 := [eR a0]) rfl (s_an rfl (pos_g I4 (E3.g gA0 (by decide)) (by decide))) rfl ?_
    refine j_no (np := 16) (n := 10) rfl rfl rfl I4 ?_
    intro r13 m14 I15 F16 U17 O18
    have F19 : Fr l_210 8 8169 g μ m14 := F8.t3 E3 F16 rfl
    have U17 : UC g1 m14 r13 0 10 [0, 0, 0, 0, 0, 0, 0, 0, 0, 0] := U17
    refine w_t (np := 17) (l2 := [some (eR a0), some (eR v6)]) (s2 := [eR r13, eR r13, eR a0]) rfl rfl rfl ?_
    refine w_t (np := 18) (l2 := [some (eR a0), some (eR v6)]) (s2 := [eR a0, eR r13, eR r13, eR a0]) rfl (s_an rfl (pos_g I15 (E3.g gA0 (by decide)) (by decide))) rfl ?_
    refine j_gr (np := 21) rfl rfl I15 (E3.g gA0 (by decide)) (by decide) (n := 14) rfl rfl rfl ?_
    intro v20 e21 b22 z23
    rcases hor2 b22 with b22 | b22
    · refine w_t (np := 22) (l2 := [some (eR a0), some (eR v6)]) (s2 := [eR v6, eR v20, eR r13, eR r13, eR a0]) rfl (s_an rfl (pos_g I15 b7 (by decide))) rfl ?_
      refine v_ci (np := 25) (as := [eR v20, eR v6]) (lv' := [some (eR r13), some (eR v20), some (eR v6)]) (rest := [eR r13, eR a0]) rfl rfl rfl (Nat.ble_eq.mp rfl) rfl rfl rfl U17.2.1 rfl ?_
      refine w_t (np := 1) (l2 := [some (eR r13), some (eR v20), some (eR v6)]) (s2 := [eR r13]) rfl (s_an rfl (by have := U17.2.1; omega)) rfl ?_
      refine v_oi (np := 4) rfl rfl (by have := U17.2.1; omega) rfl ?_
      refine w_t (np := 5) (l2 := [some (eR r13), some (eR v20), some (eR v6)]) (s2 := [eR r13]) rfl (s_an rfl (by have := U17.2.1; omega)) rfl ?_
      refine w_t (np := 6) (l2 := [some (eR r13), some (eR v20), some (eR v6)]) (s2 := [eR v20, eR r13]) rfl (s_an rfl (pos_g I15 b22 (by decide))) rfl ?_
      refine j_pu (np := 9) (w := ((v20 : Nat) : Int)) rfl rfl I15 U17 (Nat.ble_eq.mp rfl) rfl ?_
      intro m24 I25 F26 W27 U28
      have F29 : Fr l_210 8 8169 g μ m24 := F19.t3 E3 F26 rfl
      have U28 : UC g1 m24 r13 0 10 [0, 0, 0, 0, 0, ((v20 : Nat) : Int), 0, 0, 0, 0] := U28
      refine w_t (np := 10) (l2 := [some (eR r13), some (eR v20), some (eR v6)]) (s2 := [eR r13]) rfl (s_an rfl (by have := U28.2.1; omega)) rfl ?_
      refine w_t (np := 11) (l2 := [some (eR r13), some (eR v20), some (eR v6)]) (s2 := [eR v6, eR r13]) rfl (s_an rfl (pos_g I25 b7 (by decide))) rfl ?_
      refine j_pu (np := 14) (w := ((v6 : Nat) : Int)) rfl rfl I25 U28 (Nat.ble_eq.mp rfl) rfl ?_
      intro m30 I31 F32 W33 U34
      have F35 : Fr l_210 8 8169 g μ m30 := F29.t3 E3 F32 rfl
      have U34 : UC g1 m30 r13 0 10 [0, 0, 0, 0, 0, ((v20 : Nat) : Int), ((v6 : Nat) : Int), 0, 0, 0] := U34
      refine w_t (np := 15) (l2 := [some (eR r13), some (eR v20), some (eR v6)]) (s2 := [eR r13]) rfl (s_an rfl (by have := U34.2.1; omega)) rfl ?_
      refine w_t (np := 18) (l2 := [some (eR r13), some (eR v20), some (eR v6)]) (s2 := [eI (512), eR r13]) rfl rfl rfl ?_
      refine j_na (np := 20) (ρ := 43) (lo := -2147483648) (hi := 2147483647) rfl rfl I31 rfl (by decide) (by decide) (fun _ => rfl) (by decide) rfl ?_
      intro r36 g37 m38 I39 E40 b41 F42 U43 K44
      have F45 : Fr l_210 9 8681 g μ m38 := F35.t3 E3 F42 rfl
      have E46 := E3.t E40
      have U47 : UC g37 m38 r13 0 10 [0, 0, 0, 0, 0, ((v20 : Nat) : Int), ((v6 : Nat) : Int), 0, 0, 0] := U43 _ _ _ _ U34
      refine j_pu (np := 23) (w := ((r36 : Nat) : Int)) rfl rfl I39 U47 (Nat.ble_eq.mp rfl) rfl ?_
      intro m48 I49 F50 W51 U52
      have F53 : Fr l_210 9 8681 g μ m48 := F45.t3 E46 F50 rfl
      have U52 : UC g37 m48 r13 0 10 [((r36 : Nat) : Int), 0, 0, 0, 0, ((v20 : Nat) : Int), ((v6 : Nat) : Int), 0, 0, 0] := U52
      refine w_t (np := 24) (l2 := [some (eR r13), some (eR v20), some (eR v6)]) (s2 := [eR r13]) rfl (s_an rfl (by have := U52.2.1; omega)) rfl ?_
      refine w_t (np := 27) (l2 := [some (eR r13), some (eR v20), some (eR v6)]) (s2 := [eI (512), eR r13]) rfl rfl rfl ?_
      refine j_na (np := 29) (ρ := 44) (lo := -9223372036854775808) (hi := 9223372036854775807) rfl rfl I49 rfl (by decide) (by decide) (fun _ => rfl) (by decide) rfl ?_
      intro r54 g55 m56 I57 E58 b59 F60 U61 K62
      have F63 : Fr l_210 10 9193 g μ m56 := F53.t3 E46 F60 rfl
      have E64 := E46.t E58
      have U65 : UC g55 m56 r13 0 10 [((r36 : Nat) : Int), 0, 0, 0, 0, ((v20 : Nat) : Int), ((v6 : Nat) : Int), 0, 0, 0] := U61 _ _ _ _ U52
      refine j_pu (np := 32) (w := ((r54 : Nat) : Int)) rfl rfl I57 U65 (Nat.ble_eq.mp rfl) rfl ?_
      intro m66 I67 F68 W69 U70
      have F71 : Fr l_210 10 9193 g μ m66 := F63.t3 E64 F68 rfl
      have U70 : UC g55 m66 r13 0 10 [((r36 : Nat) : Int), ((r54 : Nat) : Int), 0, 0, 0, ((v20 : Nat) : Int), ((v6 : Nat) : Int), 0, 0, 0] := U70
      refine w_t (np := 33) (l2 := [some (eR r13), some (eR v20), some (eR v6)]) (s2 := [eR r13]) rfl (s_an rfl (by have := U70.2.1; omega)) rfl ?_
      refine w_t (np := 36) (l2 := [some (eR r13), some (eR v20), some (eR v6)]) (s2 := [eI (512), eR r13]) rfl rfl rfl ?_
      refine j_na (np := 38) (ρ := 45) (lo := 0) (hi := 1) rfl rfl I67 rfl (by decide) (by decide) (fun _ => rfl) (by decide) rfl ?_
      intro r72 g73 m74 I75 E76 b77 F78 U79 K80
      have F81 : Fr l_210 11 9705 g μ m74 := F71.t3 E64 F78 rfl
      have E82 := E64.t E76
      have U83 : UC g73 m74 r13 0 10 [((r36 : Nat) : Int), ((r54 : Nat) : Int), 0, 0, 0, ((v20 : Nat) : Int), ((v6 : Nat) : Int), 0, 0, 0] := U79 _ _ _ _ U70
      refine j_pu (np := 41) (w := ((r72 : Nat) : Int)) rfl rfl I75 U83 (Nat.ble_eq.mp rfl) rfl ?_
      intro m84 I85 F86 W87 U88
      have F89 : Fr l_210 11 9705 g μ m84 := F81.t3 E82 F86 rfl
      have U88 : UC g73 m84 r13 0 10 [((r36 : Nat) : Int), ((r54 : Nat) : Int), ((r72 : Nat) : Int), 0, 0, ((v20 : Nat) : Int), ((v6 : Nat) : Int), 0, 0, 0] := U88
      refine w_t (np := 42) (l2 := [some (eR r13), some (eR v20), some (eR v6)]) (s2 := [eR r13]) rfl (s_an rfl (by have := U88.2.1; omega)) rfl ?_
      refine w_t (np := 45) (l2 := [some (eR r13), some (eR v20), some (eR v6)]) (s2 := [eI (512), eR r13]) rfl rfl rfl ?_
      refine j_na (np := 47) (ρ := 46) (lo := -2147483648) (hi := 2147483647) rfl rfl I85 rfl (by decide) (by decide) (fun _ => rfl) (by decide) rfl ?_
      intro r90 g91 m92 I93 E94 b95 F96 U97 K98
      have F99 : Fr l_210 12 10217 g μ m92 := F89.t3 E82 F96 rfl
      have E100 := E82.t E94
      have U101 : UC g91 m92 r13 0 10 [((r36 : Nat) : Int), ((r54 : Nat) : Int), ((r72 : Nat) : Int), 0, 0, ((v20 : Nat) : Int), ((v6 : Nat) : Int), 0, 0, 0] := U97 _ _ _ _ U88
      refine j_pu (np := 50) (w := ((r90 : Nat) : Int)) rfl rfl I93 U101 (Nat.ble_eq.mp rfl) rfl ?_
      intro m102 I103 F104 W105 U106
      have F107 : Fr l_210 12 10217 g μ m102 := F99.t3 E100 F104 rfl
      have U106 : UC g91 m102 r13 0 10 [((r36 : Nat) : Int), ((r54 : Nat) : Int), ((r72 : Nat) : Int), ((r90 : Nat) : Int), 0, ((v20 : Nat) : Int), ((v6 : Nat) : Int), 0, 0, 0] := U106
      refine w_t (np := 51) (l2 := [some (eR r13), some (eR v20), some (eR v6)]) (s2 := [eR r13]) rfl (s_an rfl (by have := U106.2.1; omega)) rfl ?_
      refine w_t (np := 53) (l2 := [some (eR r13), some (eR v20), some (eR v6)]) (s2 := [eI (64), eR r13]) rfl rfl rfl ?_
      refine j_na (np := 55) (ρ := 47) (lo := -2147483648) (hi := 2147483647) rfl rfl I103 rfl (by decide) (by decide) (fun _ => rfl) (by decide) rfl ?_
      intro r108 g109 m110 I111 E112 b113 F114 U115 K116
      have F117 : Fr l_210 13 10281 g μ m110 := F107.t3 E100 F114 rfl
      have E118 := E100.t E112
      have U119 : UC g109 m110 r13 0 10 [((r36 : Nat) : Int), ((r54 : Nat) : Int), ((r72 : Nat) : Int), ((r90 : Nat) : Int), 0, ((v20 : Nat) : Int), ((v6 : Nat) : Int), 0, 0, 0] := U115 _ _ _ _ U106
      refine j_pu (np := 58) (w := ((r108 : Nat) : Int)) rfl rfl I111 U119 (Nat.ble_eq.mp rfl) rfl ?_
      intro m120 I121 F122 W123 U124
      have F125 : Fr l_210 13 10281 g μ m120 := F117.t3 E118 F122 rfl
      have U124 : UC g109 m120 r13 0 10 [((r36 : Nat) : Int), ((r54 : Nat) : Int), ((r72 : Nat) : Int), ((r90 : Nat) : Int), ((r108 : Nat) : Int), ((v20 : Nat) : Int), ((v6 : Nat) : Int), 0, 0, 0] := U124
      refine v_rv rfl rfl ?_
      show ex_q (dt_fg L ρ) rc (d + 6, (210, 25, [some (eR a0), some (eR v6)], [eR r13, eR a0]), f :: F, m120)
      obtain ⟨g126, I127, E128, b129⟩ := U124.pb (ρ := 42) I121 (by decide) (by decide) rfl (fun k hk => match k, hk with
        | 0, _ => hO_r (b := r36) rfl (by rw [(E112.g (E94.g (E76.g (E58.g b41 (by decide)) (by decide)) (by decide)) (by decide))]; rfl) (fun q => absurd q (by rw [(E112.g (E94.g (E76.g (E58.g b41 (by decide)) (by decide)) (by decide)) (by decide))]; decide))
        | 1, _ => hO_r (b := r54) rfl (by rw [(E112.g (E94.g (E76.g b59 (by decide)) (by decide)) (by decide))]; rfl) (fun q => absurd q (by rw [(E112.g (E94.g (E76.g b59 (by decide)) (by decide)) (by decide))]; decide))
        | 2, _ => hO_r (b := r72) rfl (by rw [(E112.g (E94.g b77 (by decide)) (by decide))]; rfl) (fun q => absurd q (by rw [(E112.g (E94.g b77 (by decide)) (by decide))]; decide))
        | 3, _ => hO_r (b := r90) rfl (by rw [(E112.g b95 (by decide))]; rfl) (fun q => absurd q (by rw [(E112.g b95 (by decide))]; decide))
        | 4, _ => hO_r (b := r108) rfl (by rw [b113]; rfl) (fun q => absurd q (by rw [b113]; decide))
        | 5, _ => hO_r (b := v20) rfl (by rw [(E112.g (E94.g (E76.g (E58.g (E40.g b22 (by decide)) (by decide)) (by decide)) (by decide)) (by decide))]; rfl) (fun q => absurd q (by rw [(E112.g (E94.g (E76.g (E58.g (E40.g b22 (by decide)) (by decide)) (by decide)) (by decide)) (by decide))]; decide))
        | 6, _ => hO_r (b := v6) rfl (by rw [(E112.g (E94.g (E76.g (E58.g (E40.g b7 (by decide)) (by decide)) (by decide)) (by decide)) (by decide))]; rfl) (fun q => absurd q (by rw [(E112.g (E94.g (E76.g (E58.g (E40.g b7 (by decide)) (by decide)) (by decide)) (by decide)) (by decide))]; decide))
        | 7, _ => hO_i (x := 0) (lo := 0) (hi := 512) rfl (by decide)
        | 8, _ => hO_i (x := 0) (lo := -2147483648) (hi := 2147483647) rfl (by decide)
        | 9, _ => hO_i (x := 0) (lo := 0) (hi := 64) rfl (by decide)
        | k + 10, hk => absurd hk (by omega))
      have E130 := E118.t E128
      refine j_pf (np := 28) (w := ((r13 : Nat) : Int)) rfl rfl I127 (E128.g (E112.g (E94.g (E76.g (E58.g (E40.g (E3.g gA0 (by decide)) (by decide)) (by decide)) (by decide)) (by decide)) (by decide)) (by decide)) (by decide) (n := 14) rfl rfl (hO_r rfl (by rw [b129]; rfl) (fun q => absurd q (by rw [b129]; decide))) ?_
      intro m131 I132 W133
      have F134 : Fr l_210 13 10281 g μ m131 := F125.w3 E130 W133 (E128.g (E112.g (E94.g (E76.g (E58.g (E40.g (E3.g gA0 (by decide)) (by decide)) (by decide)) (by decide)) (by decide)) (by decide)) (by decide)) rfl
      refine w_t (np := 29) (l2 := [some (eR a0), some (eR v6)]) (s2 := [eR a0]) rfl (s_an rfl (pos_g I132 (E128.g (E112.g (E94.g (E76.g (E58.g (E40.g (E3.g gA0 (by decide)) (by decide)) (by decide)) (by decide)) (by decide)) (by decide)) (by decide)) (by decide))) rfl ?_
      refine j_gi (np := 32) rfl rfl rfl I132 (E128.g (E112.g (E94.g (E76.g (E58.g (E40.g (E3.g gA0 (by decide)) (by decide)) (by decide)) (by decide)) (by decide)) (by decide)) (by decide)) (by decide) (n := 14) rfl rfl (lo := 0) (hi := 1) rfl ?_
      intro v135 e136 b137
      refine b_ine (t1 := 47) (t2 := 35) rfl rfl rfl (ev_w_in (by omega) (by omega)) (fun g138 => ?_) (fun g138 => ?_)
      · have b139 : 1 ≤ v135 ∧ v135 ≤ 1 := by omega
        refine w_t (np := 48) (l2 := [some (eR a0), some (eR v6)]) (s2 := [eR a0]) rfl (s_an rfl (pos_g I132 (E128.g (E112.g (E94.g (E76.g (E58.g (E40.g (E3.g gA0 (by decide)) (by decide)) (by decide)) (by decide)) (by decide)) (by decide)) (by decide)) (by decide))) rfl ?_
        refine w_gf (np := 51) (v := eR r13) rfl rfl (I132.kd (E128.g (E112.g (E94.g (E76.g (E58.g (E40.g (E3.g gA0 (by decide)) (by decide)) (by decide)) (by decide)) (by decide)) (by decide)) (by decide)) (by decide) (n := 14) rfl) (by rw [W133.at]; rfl) ?_
        exact v_ra rfl rfl (K g126 m131 r13 E130 I132 F134 b129)
      · have b139 : 0 ≤ v135 ∧ v135 ≤ 0 := by omega
        refine w_t (np := 36) (l2 := [some (eR a0), some (eR v6)]) (s2 := [eR a0]) rfl (s_an rfl (pos_g I132 (E128.g (E112.g (E94.g (E76.g (E58.g (E40.g (E3.g gA0 (by decide)) (by decide)) (by decide)) (by decide)) (by decide)) (by decide)) (by decide)) (by decide))) rfl ?_
        refine w_gf (np := 39) (v := eR r13) rfl rfl (I132.kd (E128.g (E112.g (E94.g (E76.g (E58.g (E40.g (E3.g gA0 (by decide)) (by decide)) (by decide)) (by decide)) (by decide)) (by decide)) (by decide)) (by decide) (n := 14) rfl) (by rw [W133.at]; rfl) ?_
        refine w_cw (np := 42) (as := []) (l2 := [some (eR r13), none, none]) (rest := []) rfl rfl rfl (Nat.ble_eq.mp rfl) rfl rfl rfl (I132.kd b129 (by decide) (n := 10) rfl) rfl ?_
        refine s_2 I132 b129 ?_
        intro m139 I140 F141
        have F142 : Fr l_210 13 10281 g μ m139 := F134.t3 E130 F141 rfl
        show ex_q (dt_fg L ρ) rc (d + 6, (210, 42, [some (eR a0), some (eR v6)], []), f :: F, m139)
        refine w_t (np := 43) (l2 := [some (eR a0), some (eR v6)]) (s2 := [eR a0]) rfl (s_an rfl (pos_g I140 (E128.g (E112.g (E94.g (E76.g (E58.g (E40.g (E3.g gA0 (by decide)) (by decide)) (by decide)) (by decide)) (by decide)) (by decide)) (by decide)) (by decide))) rfl ?_
        refine w_t (np := 44) (l2 := [some (eR a0), some (eR v6)]) (s2 := [eI (1), eR a0]) rfl rfl rfl ?_
        refine j_pf (np := 47) (w := 1) rfl rfl I140 (E128.g (E112.g (E94.g (E76.g (E58.g (E40.g (E3.g gA0 (by decide)) (by decide)) (by decide)) (by decide)) (by decide)) (by decide)) (by decide)) (by decide) (n := 14) rfl rfl (hO_i (lo := 0) (hi := 1) rfl (by decide)) ?_
        intro m143 I144 W145
        have F146 : Fr l_210 13 10281 g μ m143 := F142.w3 E130 W145 (E128.g (E112.g (E94.g (E76.g (E58.g (E40.g (E3.g gA0 (by decide)) (by decide)) (by decide)) (by decide)) (by decide)) (by decide)) (by decide)) rfl
        refine w_t (np := 48) (l2 := [some (eR a0), some (eR v6)]) (s2 := [eR a0]) rfl (s_an rfl (pos_g I144 (E128.g (E112.g (E94.g (E76.g (E58.g (E40.g (E3.g gA0 (by decide)) (by decide)) (by decide)) (by decide)) (by decide)) (by decide)) (by decide)) (by decide))) rfl ?_
        refine w_gf (np := 51) (v := eR r13) rfl rfl (I144.kd (E128.g (E112.g (E94.g (E76.g (E58.g (E40.g (E3.g gA0 (by decide)) (by decide)) (by decide)) (by decide)) (by decide)) (by decide)) (by decide)) (by decide) (n := 14) rfl) (by rw [(W145.slot (F141.k W133.at (E128.g (E112.g (E94.g (E76.g (E58.g (E40.g (E3.g gA0 (by decide)) (by decide)) (by decide)) (by decide)) (by decide)) (by decide)) (by decide)) (by decide) rfl) (by decide))]; rfl) ?_
        exact v_ra rfl rfl (K g126 m143 r13 E130 I144 F146 b129)
    · refine w_t (np := 22) (l2 := [some (eR a0), some (eR v6)]) (s2 := [eR v6, eR v20, eR r13, eR r13, eR a0]) rfl (s_an rfl (pos_g I15 b7 (by decide))) rfl ?_
      refine v_ci (np := 25) (as := [eR v20, eR v6]) (lv' := [some (eR r13), some (eR v20), some (eR v6)]) (rest := [eR r13, eR a0]) rfl rfl rfl (Nat.ble_eq.mp rfl) rfl rfl rfl U17.2.1 rfl ?_
      refine w_t (np := 1) (l2 := [some (eR r13), some (eR v20), some (eR v6)]) (s2 := [eR r13]) rfl (s_an rfl (by have := U17.2.1; omega)) rfl ?_
      refine v_oi (np := 4) rfl rfl (by have := U17.2.1; omega) rfl ?_
      refine w_t (np := 5) (l2 := [some (eR r13), some (eR v20), some (eR v6)]) (s2 := [eR r13]) rfl (s_an rfl (by have := U17.2.1; omega)) rfl ?_
      refine w_t (np := 6) (l2 := [some (eR r13), some (eR v20), some (eR v6)]) (s2 := [eR v20, eR r13]) rfl (s_an rfl (pos_g I15 b22 (by decide))) rfl ?_
      refine j_pu (np := 9) (w := ((v20 : Nat) : Int)) rfl rfl I15 U17 (Nat.ble_eq.mp rfl) rfl ?_
      intro m24 I25 F26 W27 U28
      have F29 : Fr l_210 8 8169 g μ m24 := F19.t3 E3 F26 rfl
      have U28 : UC g1 m24 r13 0 10 [0, 0, 0, 0, 0, ((v20 : Nat) : Int), 0, 0, 0, 0] := U28
      refine w_t (np := 10) (l2 := [some (eR r13), some (eR v20), some (eR v6)]) (s2 := [eR r13]) rfl (s_an rfl (by have := U28.2.1; omega)) rfl ?_
      refine w_t (np := 11) (l2 := [some (eR r13), some (eR v20), some (eR v6)]) (s2 := [eR v6, eR r13]) rfl (s_an rfl (pos_g I25 b7 (by decide))) rfl ?_
      refine j_pu (np := 14) (w := ((v6 : Nat) : Int)) rfl rfl I25 U28 (Nat.ble_eq.mp rfl) rfl ?_
      intro m30 I31 F32 W33 U34
      have F35 : Fr l_210 8 8169 g μ m30 := F29.t3 E3 F32 rfl
      have U34 : UC g1 m30 r13 0 10 [0, 0, 0, 0, 0, ((v20 : Nat) : Int), ((v6 : Nat) : Int), 0, 0, 0] := U34
      refine w_t (np := 15) (l2 := [some (eR r13), some (eR v20), some (eR v6)]) (s2 := [eR r13]) rfl (s_an rfl (by have := U34.2.1; omega)) rfl ?_
      refine w_t (np := 18) (l2 := [some (eR r13), some (eR v20), some (eR v6)]) (s2 := [eI (512), eR r13]) rfl rfl rfl ?_
      refine j_na (np := 20) (ρ := 43) (lo := -2147483648) (hi := 2147483647) rfl rfl I31 rfl (by decide) (by decide) (fun _ => rfl) (by decide) rfl ?_
      intro r36 g37 m38 I39 E40 b41 F42 U43 K44
      have F45 : Fr l_210 9 8681 g μ m38 := F35.t3 E3 F42 rfl
      have E46 := E3.t E40
      have U47 : UC g37 m38 r13 0 10 [0, 0, 0, 0, 0, ((v20 : Nat) : Int), ((v6 : Nat) : Int), 0, 0, 0] := U43 _ _ _ _ U34
      refine j_pu (np := 23) (w := ((r36 : Nat) : Int)) rfl rfl I39 U47 (Nat.ble_eq.mp rfl) rfl ?_
      intro m48 I49 F50 W51 U52
      have F53 : Fr l_210 9 8681 g μ m48 := F45.t3 E46 F50 rfl
      have U52 : UC g37 m48 r13 0 10 [((r36 : Nat) : Int), 0, 0, 0, 0, ((v20 : Nat) : Int), ((v6 : Nat) : Int), 0, 0, 0] := U52
      refine w_t (np := 24) (l2 := [some (eR r13), some (eR v20), some (eR v6)]) (s2 := [eR r13]) rfl (s_an rfl (by have := U52.2.1; omega)) rfl ?_
      refine w_t (np := 27) (l2 := [some (eR r13), some (eR v20), some (eR v6)]) (s2 := [eI (512), eR r13]) rfl rfl rfl ?_
      refine j_na (np := 29) (ρ := 44) (lo := -9223372036854775808) (hi := 9223372036854775807) rfl rfl I49 rfl (by decide) (by decide) (fun _ => rfl) (by decide) rfl ?_
      intro r54 g55 m56 I57 E58 b59 F60 U61 K62
      have F63 : Fr l_210 10 9193 g μ m56 := F53.t3 E46 F60 rfl
      have E64 := E46.t E58
      have U65 : UC g55 m56 r13 0 10 [((r36 : Nat) : Int), 0, 0, 0, 0, ((v20 : Nat) : Int), ((v6 : Nat) : Int), 0, 0, 0] := U61 _ _ _ _ U52
      refine j_pu (np := 32) (w := ((r54 : Nat) : Int)) rfl rfl I57 U65 (Nat.ble_eq.mp rfl) rfl ?_
      intro m66 I67 F68 W69 U70
      have F71 : Fr l_210 10 9193 g μ m66 := F63.t3 E64 F68 rfl
      have U70 : UC g55 m66 r13 0 10 [((r36 : Nat) : Int), ((r54 : Nat) : Int), 0, 0, 0, ((v20 : Nat) : Int), ((v6 : Nat) : Int), 0, 0, 0] := U70
      refine w_t (np := 33) (l2 := [some (eR r13), some (eR v20), some (eR v6)]) (s2 := [eR r13]) rfl (s_an rfl (by have := U70.2.1; omega)) rfl ?_
      refine w_t (np := 36) (l2 := [some (eR r13), some (eR v20), some (eR v6)]) (s2 := [eI (512), eR r13]) rfl rfl rfl ?_
      refine j_na (np := 38) (ρ := 45) (lo := 0) (hi := 1) rfl rfl I67 rfl (by decide) (by decide) (fun _ => rfl) (by decide) rfl ?_
      intro r72 g73 m74 I75 E76 b77 F78 U79 K80
      have F81 : Fr l_210 11 9705 g μ m74 := F71.t3 E64 F78 rfl
      have E82 := E64.t E76
      have U83 : UC g73 m74 r13 0 10 [((r36 : Nat) : Int), ((r54 : Nat) : Int), 0, 0, 0, ((v20 : Nat) : Int), ((v6 : Nat) : Int), 0, 0, 0] := U79 _ _ _ _ U70
      refine j_pu (np := 41) (w := ((r72 : Nat) : Int)) rfl rfl I75 U83 (Nat.ble_eq.mp rfl) rfl ?_
      intro m84 I85 F86 W87 U88
      have F89 : Fr l_210 11 9705 g μ m84 := F81.t3 E82 F86 rfl
      have U88 : UC g73 m84 r13 0 10 [((r36 : Nat) : Int), ((r54 : Nat) : Int), ((r72 : Nat) : Int), 0, 0, ((v20 : Nat) : Int), ((v6 : Nat) : Int), 0, 0, 0] := U88
      refine w_t (np := 42) (l2 := [some (eR r13), some (eR v20), some (eR v6)]) (s2 := [eR r13]) rfl (s_an rfl (by have := U88.2.1; omega)) rfl ?_
      refine w_t (np := 45) (l2 := [some (eR r13), some (eR v20), some (eR v6)]) (s2 := [eI (512), eR r13]) rfl rfl rfl ?_
      refine j_na (np := 47) (ρ := 46) (lo := -2147483648) (hi := 2147483647) rfl rfl I85 rfl (by decide) (by decide) (fun _ => rfl) (by decide) rfl ?_
      intro r90 g91 m92 I93 E94 b95 F96 U97 K98
      have F99 : Fr l_210 12 10217 g μ m92 := F89.t3 E82 F96 rfl
      have E100 := E82.t E94
      have U101 : UC g91 m92 r13 0 10 [((r36 : Nat) : Int), ((r54 : Nat) : Int), ((r72 : Nat) : Int), 0, 0, ((v20 : Nat) : Int), ((v6 : Nat) : Int), 0, 0, 0] := U97 _ _ _ _ U88
      refine j_pu (np := 50) (w := ((r90 : Nat) : Int)) rfl rfl I93 U101 (Nat.ble_eq.mp rfl) rfl ?_
      intro m102 I103 F104 W105 U106
      have F107 : Fr l_210 12 10217 g μ m102 := F99.t3 E100 F104 rfl
      have U106 : UC g91 m102 r13 0 10 [((r36 : Nat) : Int), ((r54 : Nat) : Int), ((r72 : Nat) : Int), ((r90 : Nat) : Int), 0, ((v20 : Nat) : Int), ((v6 : Nat) : Int), 0, 0, 0] := U106
      refine w_t (np := 51) (l2 := [some (eR r13), some (eR v20), some (eR v6)]) (s2 := [eR r13]) rfl (s_an rfl (by have := U106.2.1; omega)) rfl ?_
      refine w_t (np := 53) (l2 := [some (eR r13), some (eR v20), some (eR v6)]) (s2 := [eI (64), eR r13]) rfl rfl rfl ?_
      refine j_na (np := 55) (ρ := 47) (lo := -2147483648) (hi := 2147483647) rfl rfl I103 rfl (by decide) (by decide) (fun _ => rfl) (by decide) rfl ?_
      intro r108 g109 m110 I111 E112 b113 F114 U115 K116
      have F117 : Fr l_210 13 10281 g μ m110 := F107.t3 E100 F114 rfl
      have E118 := E100.t E112
      have U119 : UC g109 m110 r13 0 10 [((r36 : Nat) : Int), ((r54 : Nat) : Int), ((r72 : Nat) : Int), ((r90 : Nat) : Int), 0, ((v20 : Nat) : Int), ((v6 : Nat) : Int), 0, 0, 0] := U115 _ _ _ _ U106
      refine j_pu (np := 58) (w := ((r108 : Nat) : Int)) rfl rfl I111 U119 (Nat.ble_eq.mp rfl) rfl ?_
      intro m120 I121 F122 W123 U124
      have F125 : Fr l_210 13 10281 g μ m120 := F117.t3 E118 F122 rfl
      have U124 : UC g109 m120 r13 0 10 [((r36 : Nat) : Int), ((r54 : Nat) : Int), ((r72 : Nat) : Int), ((r90 : Nat) : Int), ((r108 : Nat) : Int), ((v20 : Nat) : Int), ((v6 : Nat) : Int), 0, 0, 0] := U124
      refine v_rv rfl rfl ?_
      show ex_q (dt_fg L ρ) rc (d + 6, (210, 25, [some (eR a0), some (eR v6)], [eR r13, eR a0]), f :: F, m120)
      obtain ⟨g126, I127, E128, b129⟩ := U124.pb (ρ := 42) I121 (by decide) (by decide) rfl (fun k hk => match k, hk with
        | 0, _ => hO_r (b := r36) rfl (by rw [(E112.g (E94.g (E76.g (E58.g b41 (by decide)) (by decide)) (by decide)) (by decide))]; rfl) (fun q => absurd q (by rw [(E112.g (E94.g (E76.g (E58.g b41 (by decide)) (by decide)) (by decide)) (by decide))]; decide))
        | 1, _ => hO_r (b := r54) rfl (by rw [(E112.g (E94.g (E76.g b59 (by decide)) (by decide)) (by decide))]; rfl) (fun q => absurd q (by rw [(E112.g (E94.g (E76.g b59 (by decide)) (by decide)) (by decide))]; decide))
        | 2, _ => hO_r (b := r72) rfl (by rw [(E112.g (E94.g b77 (by decide)) (by decide))]; rfl) (fun q => absurd q (by rw [(E112.g (E94.g b77 (by decide)) (by decide))]; decide))
        | 3, _ => hO_r (b := r90) rfl (by rw [(E112.g b95 (by decide))]; rfl) (fun q => absurd q (by rw [(E112.g b95 (by decide))]; decide))
        | 4, _ => hO_r (b := r108) rfl (by rw [b113]; rfl) (fun q => absurd q (by rw [b113]; decide))
        | 5, _ => hO_r (b := v20) rfl (by rw [(E112.g (E94.g (E76.g (E58.g (E40.g b22 (by decide)) (by decide)) (by decide)) (by decide)) (by decide))]; rfl) (fun q => absurd q (by rw [(E112.g (E94.g (E76.g (E58.g (E40.g b22 (by decide)) (by decide)) (by decide)) (by decide)) (by decide))]; decide))
        | 6, _ => hO_r (b := v6) rfl (by rw [(E112.g (E94.g (E76.g (E58.g (E40.g b7 (by decide)) (by decide)) (by decide)) (by decide)) (by decide))]; rfl) (fun q => absurd q (by rw [(E112.g (E94.g (E76.g (E58.g (E40.g b7 (by decide)) (by decide)) (by decide)) (by decide)) (by decide))]; decide))
        | 7, _ => hO_i (x := 0) (lo := 0) (hi := 512) rfl (by decide)
        | 8, _ => hO_i (x := 0) (lo := -2147483648) (hi := 2147483647) rfl (by decide)
        | 9, _ => hO_i (x := 0) (lo := 0) (hi := 64) rfl (by decide)
        | k + 10, hk => absurd hk (by omega))
      have E130 := E118.t E128
      refine j_pf (np := 28) (w := ((r13 : Nat) : Int)) rfl rfl I127 (E128.g (E112.g (E94.g (E76.g (E58.g (E40.g (E3.g gA0 (by decide)) (by decide)) (by decide)) (by decide)) (by decide)) (by decide)) (by decide)) (by decide) (n := 14) rfl rfl (hO_r rfl (by rw [b129]; rfl) (fun q => absurd q (by rw [b129]; decide))) ?_
      intro m131 I132 W133
      have F134 : Fr l_210 13 10281 g μ m131 := F125.w3 E130 W133 (E128.g (E112.g (E94.g (E76.g (E58.g (E40.g (E3.g gA0 (by decide)) (by decide)) (by decide)) (by decide)) (by decide)) (by decide)) (by decide)) rfl
      refine w_t (np := 29) (l2 := [some (eR a0), some (eR v6)]) (s2 := [eR a0]) rfl (s_an rfl (pos_g I132 (E128.g (E112.g (E94.g (E76.g (E58.g (E40.g (E3.g gA0 (by decide)) (by decide)) (by decide)) (by decide)) (by decide)) (by decide)) (by decide)) (by decide))) rfl ?_
      refine j_gi (np := 32) rfl rfl rfl I132 (E128.g (E112.g (E94.g (E76.g (E58.g (E40.g (E3.g gA0 (by decide)) (by decide)) (by decide)) (by decide)) (by decide)) (by decide)) (by decide)) (by decide) (n := 14) rfl rfl (lo := 0) (hi := 1) rfl ?_
      intro v135 e136 b137
      refine b_ine (t1 := 47) (t2 := 35) rfl rfl rfl (ev_w_in (by omega) (by omega)) (fun g138 => ?_) (fun g138 => ?_)
      · have b139 : 1 ≤ v135 ∧ v135 ≤ 1 := by omega
        refine w_t (np := 48) (l2 := [some (eR a0), some (eR v6)]) (s2 := [eR a0]) rfl (s_an rfl (pos_g I132 (E128.g (E112.g (E94.g (E76.g (E58.g (E40.g (E3.g gA0 (by decide)) (by decide)) (by decide)) (by decide)) (by decide)) (by decide)) (by decide)) (by decide))) rfl ?_
        refine w_gf (np := 51) (v := eR r13) rfl rfl (I132.kd (E128.g (E112.g (E94.g (E76.g (E58.g (E40.g (E3.g gA0 (by decide)) (by decide)) (by decide)) (by decide)) (by decide)) (by decide)) (by decide)) (by decide) (n := 14) rfl) (by rw [W133.at]; rfl) ?_
        exact v_ra rfl rfl (K g126 m131 r13 E130 I132 F134 b129)
      · have b139 : 0 ≤ v135 ∧ v135 ≤ 0 := by omega
        refine w_t (np := 36) (l2 := [some (eR a0), some (eR v6)]) (s2 := [eR a0]) rfl (s_an rfl (pos_g I132 (E128.g (E112.g (E94.g (E76.g (E58.g (E40.g (E3.g gA0 (by decide)) (by decide)) (by decide)) (by decide)) (by decide)) (by decide)) (by decide)) (by decide))) rfl ?_
        refine w_gf (np := 39) (v := eR r13) rfl rfl (I132.kd (E128.g (E112.g (E94.g (E76.g (E58.g (E40.g (E3.g gA0 (by decide)) (by decide)) (by decide)) (by decide)) (by decide)) (by decide)) (by decide)) (by decide) (n := 14) rfl) (by rw [W133.at]; rfl) ?_
        refine w_cw (np := 42) (as := []) (l2 := [some (eR r13), none, none]) (rest := []) rfl rfl rfl (Nat.ble_eq.mp rfl) rfl rfl rfl (I132.kd b129 (by decide) (n := 10) rfl) rfl ?_
        refine s_2 I132 b129 ?_
        intro m139 I140 F141
        have F142 : Fr l_210 13 10281 g μ m139 := F134.t3 E130 F141 rfl
        show ex_q (dt_fg L ρ) rc (d + 6, (210, 42, [some (eR a0), some (eR v6)], []), f :: F, m139)
        refine w_t (np := 43) (l2 := [some (eR a0), some (eR v6)]) (s2 := [eR a0]) rfl (s_an rfl (pos_g I140 (E128.g (E112.g (E94.g (E76.g (E58.g (E40.g (E3.g gA0 (by decide)) (by decide)) (by decide)) (by decide)) (by decide)) (by decide)) (by decide)) (by decide))) rfl ?_
        refine w_t (np := 44) (l2 := [some (eR a0), some (eR v6)]) (s2 := [eI (1), eR a0]) rfl rfl rfl ?_
        refine j_pf (np := 47) (w := 1) rfl rfl I140 (E128.g (E112.g (E94.g (E76.g (E58.g (E40.g (E3.g gA0 (by decide)) (by decide)) (by decide)) (by decide)) (by decide)) (by decide)) (by decide)) (by decide) (n := 14) rfl rfl (hO_i (lo := 0) (hi := 1) rfl (by decide)) ?_
        intro m143 I144 W145
        have F146 : Fr l_210 13 10281 g μ m143 := F142.w3 E130 W145 (E128.g (E112.g (E94.g (E76.g (E58.g (E40.g (E3.g gA0 (by decide)) (by decide)) (by decide)) (by decide)) (by decide)) (by decide)) (by decide)) rfl
        refine w_t (np := 48) (l2 := [some (eR a0), some (eR v6)]) (s2 := [eR a0]) rfl (s_an rfl (pos_g I144 (E128.g (E112.g (E94.g (E76.g (E58.g (E40.g (E3.g gA0 (by decide)) (by decide)) (by decide)) (by decide)) (by decide)) (by decide)) (by decide)) (by decide))) rfl ?_
        refine w_gf (np := 51) (v := eR r13) rfl rfl (I144.kd (E128.g (E112.g (E94.g (E76.g (E58.g (E40.g (E3.g gA0 (by decide)) (by decide)) (by decide)) (by decide)) (by decide)) (by decide)) (by decide)) (by decide) (n := 14) rfl) (by rw [(W145.slot (F141.k W133.at (E128.g (E112.g (E94.g (E76.g (E58.g (E40.g (E3.g gA0 (by decide)) (by decide)) (by decide)) (by decide)) (by decide)) (by decide)) (by decide)) (by decide) rfl) (by decide))]; rfl) ?_
        exact v_ra rfl rfl (K g126 m143 r13 E130 I144 F146 b129)
  · refine v_nn_t (t1 := 28) rfl rfl (beq_g I4 b11 (by decide)) ?_
    refine w_t (np := 29) (l2 := [some (eR a0), some (eR v6)]) (s2 := [eR a0]) rfl (s_an rfl (pos_g I4 (E3.g gA0 (by decide)) (by decide))) rfl ?_
    refine j_gi (np := 32) rfl rfl rfl I4 (E3.g gA0 (by decide)) (by decide) (n := 14) rfl rfl (lo := 0) (hi := 1) rfl ?_
    intro v13 e14 b15
    refine b_ine (t1 := 47) (t2 := 35) rfl rfl rfl (ev_w_in (by omega) (by omega)) (fun g16 => ?_) (fun g16 => ?_)
    · have b17 : 1 ≤ v13 ∧ v13 ≤ 1 := by omega
      refine w_t (np := 48) (l2 := [some (eR a0), some (eR v6)]) (s2 := [eR a0]) rfl (s_an rfl (pos_g I4 (E3.g gA0 (by decide)) (by decide))) rfl ?_
      refine w_gf (np := 51) (v := eR v9) rfl rfl (I4.kd (E3.g gA0 (by decide)) (by decide) (n := 14) rfl) (by rw [e10]; rfl) ?_
      exact v_ra rfl rfl (K g1 m2 v9 E3 I4 (F8.up rfl rfl) b11)
    · have b17 : 0 ≤ v13 ∧ v13 ≤ 0 := by omega
      refine w_t (np := 36) (l2 := [some (eR a0), some (eR v6)]) (s2 := [eR a0]) rfl (s_an rfl (pos_g I4 (E3.g gA0 (by decide)) (by decide))) rfl ?_
      refine w_gf (np := 39) (v := eR v9) rfl rfl (I4.kd (E3.g gA0 (by decide)) (by decide) (n := 14) rfl) (by rw [e10]; rfl) ?_
      refine w_cw (np := 42) (as := []) (l2 := [some (eR v9), none, none]) (rest := []) rfl rfl rfl (Nat.ble_eq.mp rfl) rfl rfl rfl (I4.kd b11 (by decide) (n := 10) rfl) rfl ?_
      refine s_2 I4 b11 ?_
      intro m17 I18 F19
      have F20 : Fr l_210 7 8159 g μ m17 := F8.t3 E3 F19 rfl
      show ex_q (dt_fg L ρ) rc (d + 6, (210, 42, [some (eR a0), some (eR v6)], []), f :: F, m17)
      refine w_t (np := 43) (l2 := [some (eR a0), some (eR v6)]) (s2 := [eR a0]) rfl (s_an rfl (pos_g I18 (E3.g gA0 (by decide)) (by decide))) rfl ?_
      refine w_t (np := 44) (l2 := [some (eR a0), some (eR v6)]) (s2 := [eI (1), eR a0]) rfl rfl rfl ?_
      refine j_pf (np := 47) (w := 1) rfl rfl I18 (E3.g gA0 (by decide)) (by decide) (n := 14) rfl rfl (hO_i (lo := 0) (hi := 1) rfl (by decide)) ?_
      intro m21 I22 W23
      have F24 : Fr l_210 7 8159 g μ m21 := F20.w3 E3 W23 (E3.g gA0 (by decide)) rfl
      refine w_t (np := 48) (l2 := [some (eR a0), some (eR v6)]) (s2 := [eR a0]) rfl (s_an rfl (pos_g I22 (E3.g gA0 (by decide)) (by decide))) rfl ?_
      refine w_gf (np := 51) (v := eR v9) rfl rfl (I22.kd (E3.g gA0 (by decide)) (by decide) (n := 14) rfl) (by rw [(W23.slot (F19.k e10 (E3.g gA0 (by decide)) (by decide) rfl) (by decide))]; rfl) ?_
      exact v_ra rfl rfl (K g1 m21 v9 E3 I22 (F24.up rfl rfl) b11)
def l_158 : List Nat := [10760, 10761, 10762, 12032, 11776, 11520, 11264, 11008, 268, 269, 270, 265, 266, 8971, 8972, 8973, 8968, 8969, 8970, 9216, 9472, 9728]
theorem s_158 {L : Nat} {ρ : Nat → Int} {rc : eQ} {d : Nat} {f : eFr} {F : List eFr} {μ : eM} {g : Nat → Nat} {a0 : Nat} {a1 : Int} (hI : SI g μ) (gA0 : g a0 = 1) (bA1 : -2147483648 ≤ a1 ∧ a1 ≤ 2147483647) (K : ∀ (g2 : Nat → Nat) (μ2 : eM) (v : Int), GE g g2 → SI g2 μ2 → Fr l_158 13 10281 g μ μ2 → (-2147483648 ≤ v ∧ v ≤ 2147483647) → ex_q (dt_fg L ρ) rc (d + 8, (f.1, f.2.1, f.2.2.1, eI v :: f.2.2.2), F, μ2)) : ex_q (dt_fg L ρ) rc (d + 7, (158, 0, [some (eR a0), some (eI (a1))], []), f :: F, μ) := by
  have F0 : Fr l_158 0 0 g μ μ := Fr.r
  refine w_t (np := 1) (l2 := [some (eR a0), some (eI (a1))]) (s2 := [eI (a1)]) rfl rfl rfl ?_
  rcases (show a1 = 0 ∨ a1 = 1 ∨ a1 = 2 ∨ a1 = 3 ∨ a1 = 4 ∨ a1 = 5 ∨ a1 = 6 ∨ a1 = 7 ∨ a1 = 8 ∨ a1 = 9 ∨ a1 = 10 ∨ a1 = 11 ∨ a1 = 12 ∨ a1 = 13 ∨ a1 = 14 ∨ (a1 < 0 ∨ 14 < a1) by omega) with g1 | g1 | g1 | g1 | g1 | g1 | g1 | g1 | g1 | g1 | g1 | g1 | g1 | g1 | g1 | g1
  · subst g1
    refine w_j (np := 76) (st' := []) rfl rfl rfl ?_
    refine w_t (np := 77) (l2 := [some (eR a0), some (eI (0))]) (s2 := [eR a0]) rfl (s_an rfl (pos_g hI gA0 (by decide))) rfl ?_
    refine w_t (np := 78) (l2 := [some (eR a0), some (eI (0))]) (s2 := [eR a0, eR a0]) rfl (s_an rfl (pos_g hI gA0 (by decide))) rfl ?_
    refine j_gr (np := 81) rfl rfl hI gA0 (by decide) (n := 14) rfl rfl rfl ?_
    intro v2 e3 b4 z5
    rcases hor2 b4 with b4 | b4
    · refine j_gi (np := 84) rfl rfl rfl hI b4 (by decide) (n := 8) rfl rfl (lo := 0) (hi := 3) rfl ?_
      intro v6 e7 b8
      refine w_cw (np := 87) (as := [eI (v6)]) (l2 := [some (eR a0), some (eI (v6))]) (rest := []) rfl rfl rfl (Nat.ble_eq.mp rfl) rfl rfl rfl (hI.kd gA0 (by decide) (n := 14) rfl) rfl ?_
      refine w_t (np := 1) (l2 := [some (eR a0), some (eI (v6))]) (s2 := [eR a0]) rfl (s_an rfl (pos_g hI gA0 (by decide))) rfl ?_
      refine w_t (np := 2) (l2 := [some (eR a0), some (eI (v6))]) (s2 := [eI (0), eR a0]) rfl rfl rfl ?_
      refine j_pf (np := 5) (w := 0) rfl rfl hI gA0 (by decide) (n := 14) rfl rfl (hO_i (lo := -2147483648) (hi := 2147483647) rfl (by decide)) ?_
      intro m9 I10 W11
      have F12 : Fr l_158 0 0 g μ m9 := F0.w W11 gA0 rfl
      refine w_t (np := 6) (l2 := [some (eR a0), some (eI (v6))]) (s2 := [eI (v6)]) rfl rfl rfl ?_
      refine b_ri rfl rfl ?_
      show ex_q (dt_fg L ρ) rc (d + 7, (158, 87, [some (eR a0), some (eI (0))], [eI (v6)]), f :: F, m9)
      exact b_ri rfl rfl (K g m9 (v6) I10.re I10 (F12.up rfl rfl) (by omega))
    · refine j_gi (np := 84) rfl rfl rfl hI b4 (by decide) (n := 8) rfl rfl (lo := 0) (hi := 3) rfl ?_
      intro v6 e7 b8
      refine w_cw (np := 87) (as := [eI (v6)]) (l2 := [some (eR a0), some (eI (v6))]) (rest := []) rfl rfl rfl (Nat.ble_eq.mp rfl) rfl rfl rfl (hI.kd gA0 (by decide) (n := 14) rfl) rfl ?_
      refine w_t (np := 1) (l2 := [some (eR a0), some (eI (v6))]) (s2 := [eR a0]) rfl (s_an rfl (pos_g hI gA0 (by decide))) rfl ?_
      refine w_t (np := 2) (l2 := [some (eR a0), some (eI (v6))]) (s2 := [eI (0), eR a0]) rfl rfl rfl ?_
      refine j_pf (np := 5) (w := 0) rfl rfl hI gA0 (by decide) (n := 14) rfl rfl (hO_i (lo := -2147483648) (hi := 2147483647) rfl (by decide)) ?_
      intro m9 I10 W11
      have F12 : Fr l_158 0 0 g μ m9 := F0.w W11 gA0 rfl
      refine w_t (np := 6) (l2 := [some (eR a0), some (eI (v6))]) (s2 := [eI (v6)]) rfl rfl rfl ?_
      refine b_ri rfl rfl ?_
      show ex_q (dt_fg L ρ) rc (d + 7, (158, 87, [some (eR a0), some (eI (0))], [eI (v6)]), f :: F, m9)
      exact b_ri rfl rfl (K g m9 (v6) I10.re I10 (F12.up rfl rfl) (by omega))
  · subst g1
    refine w_j (np := 88) (st' := []) rfl rfl rfl ?_
    refine w_t (np := 89) (l2 := [some (eR a0), some (eI (1))]) (s2 := [eR a0]) rfl (s_an rfl (pos_g hI gA0 (by decide))) rfl ?_
    refine w_t (np := 90) (l2 := [some (eR a0), some (eI (1))]) (s2 := [eR a0, eR a0]) rfl (s_an rfl (pos_g hI gA0 (by decide))) rfl ?_
    refine j_gr (np := 93) rfl rfl hI gA0 (by decide) (n := 14) rfl rfl rfl ?_
    intro v2 e3 b4 z5
    rcases hor2 b4 with b4 | b4
    · refine j_gi (np := 96) rfl rfl rfl hI b4 (by decide) (n := 8) rfl rfl (lo := 0) (hi := 5) rfl ?_
      intro v6 e7 b8
      refine w_cw (np := 99) (as := [eI (v6)]) (l2 := [some (eR a0), some (eI (v6))]) (rest := []) rfl rfl rfl (Nat.ble_eq.mp rfl) rfl rfl rfl (hI.kd gA0 (by decide) (n := 14) rfl) rfl ?_
      refine w_t (np := 1) (l2 := [some (eR a0), some (eI (v6))]) (s2 := [eR a0]) rfl (s_an rfl (pos_g hI gA0 (by decide))) rfl ?_
      refine w_t (np := 2) (l2 := [some (eR a0), some (eI (v6))]) (s2 := [eI (0), eR a0]) rfl rfl rfl ?_
      refine j_pf (np := 5) (w := 0) rfl rfl hI gA0 (by decide) (n := 14) rfl rfl (hO_i (lo := -2147483648) (hi := 2147483647) rfl (by decide)) ?_
      intro m9 I10 W11
      have F12 : Fr l_158 0 0 g μ m9 := F0.w W11 gA0 rfl
      refine w_t (np := 6) (l2 := [some (eR a0), some (eI (v6))]) (s2 := [eI (v6)]) rfl rfl rfl ?_
      refine b_ri rfl rfl ?_
      show ex_q (dt_fg L ρ) rc (d + 7, (158, 99, [some (eR a0), some (eI (1))], [eI (v6)]), f :: F, m9)
      exact b_ri rfl rfl (K g m9 (v6) I10.re I10 (F12.up rfl rfl) (by omega))
    · refine j_gi (np := 96) rfl rfl rfl hI b4 (by decide) (n := 8) rfl rfl (lo := 0) (hi := 5) rfl ?_
      intro v6 e7 b8
      refine w_cw (np := 99) (as := [eI (v6)]) (l2 := [some (eR a0), some (eI (v6))]) (rest := []) rfl rfl rfl (Nat.ble_eq.mp rfl) rfl rfl rfl (hI.kd gA0 (by decide) (n := 14) rfl) rfl ?_
      refine w_t (np := 1) (l2 := [some (eR a0), some (eI (v6))]) (s2 := [eR a0]) rfl (s_an rfl (pos_g hI gA0 (by decide))) rfl ?_
      refine w_t (np := 2) (l2 := [some (eR a0), some (eI (v6))]) (s2 := [eI (0), eR a0]) rfl rfl rfl ?_
      refine j_pf (np := 5) (w := 0) rfl rfl hI gA0 (by decide) (n := 14) rfl rfl (hO_i (lo := -2147483648) (hi := 2147483647) rfl (by decide)) ?_
      intro m9 I10 W11
      have F12 : Fr l_158 0 0 g μ m9 := F0.w W11 gA0 rfl
      refine w_t (np := 6) (l2 := [some (eR a0), some (eI (v6))]) (s2 := [eI (v6)]) rfl rfl rfl ?_
      refine b_ri rfl rfl ?_
      show ex_q (dt_fg L ρ) rc (d + 7, (158, 99, [some (eR a0), some (eI (1))], [eI (v6)]), f :: F, m9)
      exact b_ri rfl rfl (K g m9 (v6) I10.re I10 (F12.up rfl rfl) (by omega))
  · subst g1
    refine w_j (np := 100) (st' := []) rfl rfl rfl ?_
    refine w_t (np := 101) (l2 := [some (eR a0), some (eI (2))]) (s2 := [eR a0]) rfl (s_an rfl (pos_g hI gA0 (by decide))) rfl ?_
    refine w_t (np := 102) (l2 := [some (eR a0), some (eI (2))]) (s2 := [eR a0, eR a0]) rfl (s_an rfl (pos_g hI gA0 (by decide))) rfl ?_
    refine j_gr (np := 105) rfl rfl hI gA0 (by decide) (n := 14) rfl rfl rfl ?_
    intro v2 e3 b4 z5
    rcases hor2 b4 with b4 | b4
    · refine j_gi (np := 108) rfl rfl rfl hI b4 (by decide) (n := 8) rfl rfl (lo := 0) (hi := 50) rfl ?_
      intro v6 e7 b8
      refine w_cw (np := 111) (as := [eI (v6)]) (l2 := [some (eR a0), some (eI (v6))]) (rest := []) rfl rfl rfl (Nat.ble_eq.mp rfl) rfl rfl rfl (hI.kd gA0 (by decide) (n := 14) rfl) rfl ?_
      refine w_t (np := 1) (l2 := [some (eR a0), some (eI (v6))]) (s2 := [eR a0]) rfl (s_an rfl (pos_g hI gA0 (by decide))) rfl ?_
      refine w_t (np := 2) (l2 := [some (eR a0), some (eI (v6))]) (s2 := [eI (0), eR a0]) rfl rfl rfl ?_
      refine j_pf (np := 5) (w := 0) rfl rfl hI gA0 (by decide) (n := 14) rfl rfl (hO_i (lo := -2147483648) (hi := 2147483647) rfl (by decide)) ?_
      intro m9 I10 W11
      have F12 : Fr l_158 0 0 g μ m9 := F0.w W11 gA0 rfl
      refine w_t (np := 6) (l2 := [some (eR a0), some (eI (v6))]) (s2 := [eI (v6)]) rfl rfl rfl ?_
      refine b_ri rfl rfl ?_
      show ex_q (dt_fg L ρ) rc (d + 7, (158, 111, [some (eR a0), some (eI (2))], [eI (v6)]), f :: F, m9)
      exact b_ri rfl rfl (K g m9 (v6) I10.re I10 (F12.up rfl rfl) (by omega))
    · refine j_gi (np := 108) rfl rfl rfl hI b4 (by decide) (n := 8) rfl rfl (lo := 0) (hi := 890) rfl ?_
      intro v6 e7 b8
      refine w_cw (np := 111) (as := [eI (v6)]) (l2 := [some (eR a0), some (eI (v6))]) (rest := []) rfl rfl rfl (Nat.ble_eq.mp rfl) rfl rfl rfl (hI.kd gA0 (by decide) (n := 14) rfl) rfl ?_
      refine w_t (np := 1) (l2 := [some (eR a0), some (eI (v6))]) (s2 := [eR a0]) rfl (s_an rfl (pos_g hI gA0 (by decide))) rfl ?_
      refine w_t (np := 2) (l2 := [some (eR a0), some (eI (v6))]) (s2 := [eI (0), eR a0]) rfl rfl rfl ?_
      refine j_pf (np := 5) (w := 0) rfl rfl hI gA0 (by decide) (n := 14) rfl rfl (hO_i (lo := -2147483648) (hi := 2147483647) rfl (by decide)) ?_
      intro m9 I10 W11
      have F12 : Fr l_158 0 0 g μ m9 := F0.w W11 gA0 rfl
      refine w_t (np := 6) (l2 := [some (eR a0), some (eI (v6))]) (s2 := [eI (v6)]) rfl rfl rfl ?_
      refine b_ri rfl rfl ?_
      show ex_q (dt_fg L ρ) rc (d + 7, (158, 111, [some (eR a0), some (eI (2))], [eI (v6)]), f :: F, m9)
      exact b_ri rfl rfl (K g m9 (v6) I10.re I10 (F12.up rfl rfl) (by omega))
  · subst g1
    refine w_j (np := 112) (st' := []) rfl rfl rfl ?_
    refine w_t (np := 113) (l2 := [some (eR a0), some (eI (3))]) (s2 := [eR a0]) rfl (s_an rfl (pos_g hI gA0 (by decide))) rfl ?_
    refine w_t (np := 114) (l2 := [some (eR a0), some (eI (3))]) (s2 := [eR a0, eR a0]) rfl (s_an rfl (pos_g hI gA0 (by decide))) rfl ?_
    refine j_gr (np := 117) rfl rfl hI gA0 (by decide) (n := 14) rfl rfl rfl ?_
    intro v2 e3 b4 z5
    rcases hor2 b4 with b4 | b4
    · refine w_t (np := 118) (l2 := [some (eR a0), some (eI (3))]) (s2 := [eI (0), eR v2, eR a0]) rfl rfl rfl ?_
      refine w_cw (np := 121) (as := [eI (0)]) (l2 := [some (eR v2), some (eI (0)), none, none]) (rest := [eR a0]) rfl rfl rfl (Nat.ble_eq.mp rfl) rfl rfl rfl (hI.kd b4 (by decide) (n := 8) rfl) rfl ?_
      refine s_25 (a1 := 0) hI b4 (by decide) ?_
      intro v6 b7
      show ex_q (dt_fg L ρ) rc (d + 7, (158, 121, [some (eR a0), some (eI (3))], [eI (v6), eR a0]), f :: F, μ)
      refine w_cw (np := 124) (as := [eI (v6)]) (l2 := [some (eR a0), some (eI (v6))]) (rest := []) rfl rfl rfl (Nat.ble_eq.mp rfl) rfl rfl rfl (hI.kd gA0 (by decide) (n := 14) rfl) rfl ?_
      refine w_t (np := 1) (l2 := [some (eR a0), some (eI (v6))]) (s2 := [eR a0]) rfl (s_an rfl (pos_g hI gA0 (by decide))) rfl ?_
      refine w_t (np := 2) (l2 := [some (eR a0), some (eI (v6))]) (s2 := [eI (0), eR a0]) rfl rfl rfl ?_
      refine j_pf (np := 5) (w := 0) rfl rfl hI gA0 (by decide) (n := 14) rfl rfl (hO_i (lo := -2147483648) (hi := 2147483647) rfl (by decide)) ?_
      intro m8 I9 W10
      have F11 : Fr l_158 0 0 g μ m8 := F0.w W10 gA0 rfl
      refine w_t (np := 6) (l2 := [some (eR a0), some (eI (v6))]) (s2 := [eI (v6)]) rfl rfl rfl ?_
      refine b_ri rfl rfl ?_
      show ex_q (dt_fg L ρ) rc (d + 7, (158, 124, [some (eR a0), some (eI (3))], [eI (v6)]), f :: F, m8)
      exact b_ri rfl rfl (K g m8 (v6) I9.re I9 (F11.up rfl rfl) (by omega))
    · refine w_t (np := 118) (l2 := [some (eR a0), some (eI (3))]) (s2 := [eI (0), eR v2, eR a0]) rfl rfl rfl ?_
      refine w_cw (np := 121) (as := [eI (0)]) (l2 := [some (eR v2), some (eI (0)), none, none]) (rest := [eR a0]) rfl rfl rfl (Nat.ble_eq.mp rfl) rfl rfl rfl (hI.kd b4 (by decide) (n := 8) rfl) rfl ?_
      refine s_25_2 (a1 := 0) hI b4 (by decide) ?_
      intro v6 b7
      show ex_q (dt_fg L ρ) rc (d + 7, (158, 121, [some (eR a0), some (eI (3))], [eI (v6), eR a0]), f :: F, μ)
      refine w_cw (np := 124) (as := [eI (v6)]) (l2 := [some (eR a0), some (eI (v6))]) (rest := []) rfl rfl rfl (Nat.ble_eq.mp rfl) rfl rfl rfl (hI.kd gA0 (by decide) (n := 14) rfl) rfl ?_
      refine w_t (np := 1) (l2 := [some (eR a0), some (eI (v6))]) (s2 := [eR a0]) rfl (s_an rfl (pos_g hI gA0 (by decide))) rfl ?_
      refine w_t (np := 2) (l2 := [some (eR a0), some (eI (v6))]) (s2 := [eI (0), eR a0]) rfl rfl rfl ?_
      refine j_pf (np := 5) (w := 0) rfl rfl hI gA0 (by decide) (n := 14) rfl rfl (hO_i (lo := -2147483648) (hi := 2147483647) rfl (by decide)) ?_
      intro m8 I9 W10
      have F11 : Fr l_158 0 0 g μ m8 := F0.w W10 gA0 rfl
      refine w_t (np := 6) (l2 := [some (eR a0), some (eI (v6))]) (s2 := [eI (v6)]) rfl rfl rfl ?_
      refine b_ri rfl rfl ?_
      show ex_q (dt_fg L ρ) rc (d + 7, (158, 124, [some (eR a0), some (eI (3))], [eI (v6)]), f :: F, m8)
      exact b_ri rfl rfl (K g m8 (v6) I9.re I9 (F11.up rfl rfl) (by omega))
  · subst g1
    refine w_j (np := 125) (st' := []) rfl rfl rfl ?_
    refine w_t (np := 126) (l2 := [some (eR a0), some (eI (4))]) (s2 := [eR a0]) rfl (s_an rfl (pos_g hI gA0 (by decide))) rfl ?_
    refine w_t (np := 127) (l2 := [some (eR a0), some (eI (4))]) (s2 := [eR a0, eR a0]) rfl (s_an rfl (pos_g hI gA0 (by decide))) rfl ?_
    refine j_gr (np := 130) rfl rfl hI gA0 (by decide) (n := 14) rfl rfl rfl ?_
    intro v2 e3 b4 z5
    rcases hor2 b4 with b4 | b4
    · refine w_t (np := 131) (l2 := [some (eR a0), some (eI (4))]) (s2 := [eI (1), eR v2, eR a0]) rfl rfl rfl ?_
      refine w_cw (np := 134) (as := [eI (1)]) (l2 := [some (eR v2), some (eI (1)), none, none]) (rest := [eR a0]) rfl rfl rfl (Nat.ble_eq.mp rfl) rfl rfl rfl (hI.kd b4 (by decide) (n := 8) rfl) rfl ?_
      refine s_25 (a1 := 1) hI b4 (by decide) ?_
      intro v6 b7
      show ex_q (dt_fg L ρ) rc (d + 7, (158, 134, [some (eR a0), some (eI (4))], [eI (v6), eR a0]), f :: F, μ)
      refine w_cw (np := 137) (as := [eI (v6)]) (l2 := [some (eR a0), some (eI (v6))]) (rest := []) rfl rfl rfl (Nat.ble_eq.mp rfl) rfl rfl rfl (hI.kd gA0 (by decide) (n := 14) rfl) rfl ?_
      refine w_t (np := 1) (l2 := [some (eR a0), some (eI (v6))]) (s2 := [eR a0]) rfl (s_an rfl (pos_g hI gA0 (by decide))) rfl ?_
      refine w_t (np := 2) (l2 := [some (eR a0), some (eI (v6))]) (s2 := [eI (0), eR a0]) rfl rfl rfl ?_
      refine j_pf (np := 5) (w := 0) rfl rfl hI gA0 (by decide) (n := 14) rfl rfl (hO_i (lo := -2147483648) (hi := 2147483647) rfl (by decide)) ?_
      intro m8 I9 W10
      have F11 : Fr l_158 0 0 g μ m8 := F0.w W10 gA0 rfl
      refine w_t (np := 6) (l2 := [some (eR a0), some (eI (v6))]) (s2 := [eI (v6)]) rfl rfl rfl ?_
      refine b_ri rfl rfl ?_
      show ex_q (dt_fg L ρ) rc (d + 7, (158, 137, [some (eR a0), some (eI (4))], [eI (v6)]), f :: F, m8)
      exact b_ri rfl rfl (K g m8 (v6) I9.re I9 (F11.up rfl rfl) (by omega))
    · refine w_t (np := 131) (l2 := [some (eR a0), some (eI (4))]) (s2 := [eI (1), eR v2, eR a0]) rfl rfl rfl ?_
      refine w_cw (np := 134) (as := [eI (1)]) (l2 := [some (eR v2), some (eI (1)), none, none]) (rest := [eR a0]) rfl rfl rfl (Nat.ble_eq.mp rfl) rfl rfl rfl (hI.kd b4 (by decide) (n := 8) rfl) rfl ?_
      refine s_25_2 (a1 := 1) hI b4 (by decide) ?_
      intro v6 b7
      show ex_q (dt_fg L ρ) rc (d + 7, (158, 134, [some (eR a0), some (eI (4))], [eI (v6), eR a0]), f :: F, μ)
      refine w_cw (np := 137) (as := [eI (v6)]) (l2 := [some (eR a0), some (eI (v6))]) (rest := []) rfl rfl rfl (Nat.ble_eq.mp rfl) rfl rfl rfl (hI.kd gA0 (by decide) (n := 14) rfl) rfl ?_
      refine w_t (np := 1) (l2 := [some (eR a0), some (eI (v6))]) (s2 := [eR a0]) rfl (s_an rfl (pos_g hI gA0 (by decide))) rfl ?_
      refine w_t (np := 2) (l2 := [some (eR a0), some (eI (v6))]) (s2 := [eI (0), eR a0]) rfl rfl rfl ?_
      refine j_pf (np := 5) (w := 0) rfl rfl hI gA0 (by decide) (n := 14) rfl rfl (hO_i (lo := -2147483648) (hi := 2147483647) rfl (by decide)) ?_
      intro m8 I9 W10
      have F11 : Fr l_158 0 0 g μ m8 := F0.w W10 gA0 rfl
      refine w_t (np := 6) (l2 := [some (eR a0), some (eI (v6))]) (s2 := [eI (v6)]) rfl rfl rfl ?_
      refine b_ri rfl rfl ?_
      show ex_q (dt_fg L ρ) rc (d + 7, (158, 137, [some (eR a0), some (eI (4))], [eI (v6)]), f :: F, m8)
      exact b_ri rfl rfl (K g m8 (v6) I9.re I9 (F11.up rfl rfl) (by omega))
  · subst g1
    refine w_j (np := 138) (st' := []) rfl rfl rfl ?_
    refine w_t (np := 139) (l2 := [some (eR a0), some (eI (5))]) (s2 := [eR a0]) rfl (s_an rfl (pos_g hI gA0 (by decide))) rfl ?_
    refine w_t (np := 140) (l2 := [some (eR a0), some (eI (5))]) (s2 := [eR a0, eR a0]) rfl (s_an rfl (pos_g hI gA0 (by decide))) rfl ?_
    refine w_cw (np := 143) (as := []) (l2 := [some (eR a0)]) (rest := [eR a0]) rfl rfl rfl (Nat.ble_eq.mp rfl) rfl rfl rfl (hI.kd gA0 (by decide) (n := 14) rfl) rfl ?_
    refine s_209 hI gA0 ?_
    intro g2 m3 v7 E4 I5 F6 b8
    have F9 : Fr l_158 7 8159 g μ m3 := F0.t F6 rfl
    show ex_q (dt_fg L ρ) rc (d + 7, (158, 143, [some (eR a0), some (eI (5))], [eR v7, eR a0]), f :: F, m3)
    refine j_gi (np := 146) rfl rfl rfl I5 b8 (by decide) (n := 15) rfl rfl (lo := -2147483648) (hi := 2147483647) rfl ?_
    intro v10 e11 b12
    refine w_cw (np := 149) (as := [eI (v10)]) (l2 := [some (eR a0), some (eI (v10))]) (rest := []) rfl rfl rfl (Nat.ble_eq.mp rfl) rfl rfl rfl (I5.kd (E4.g gA0 (by decide)) (by decide) (n := 14) rfl) rfl ?_
    refine w_t (np := 1) (l2 := [some (eR a0), some (eI (v10))]) (s2 := [eR a0]) rfl (s_an rfl (pos_g I5 (E4.g gA0 (by decide)) (by decide))) rfl ?_
    refine w_t (np := 2) (l2 := [some (eR a0), some (eI (v10))]) (s2 := [eI (0), eR a0]) rfl rfl rfl ?_
    refine j_pf (np := 5) (w := 0) rfl rfl I5 (E4.g gA0 (by decide)) (by decide) (n := 14) rfl rfl (hO_i (lo := -2147483648) (hi := 2147483647) rfl (by decide)) ?_
    intro m13 I14 W15
    have F16 : Fr l_158 7 8159 g μ m13 := F9.w3 E4 W15 (E4.g gA0 (by decide)) rfl
    refine w_t (np := 6) (l2 := [some (eR a0), some (eI (v10))]) (s2 := [eI (v10)]) rfl rfl rfl ?_
    refine b_ri rfl rfl ?_
    show ex_q (dt_fg L ρ) rc (d + 7, (158, 149, [some (eR a0), some (eI (5))], [eI (v10)]), f :: F, m13)
    exact b_ri rfl rfl (K g2 m13 (v10) E4 I14 (F16.up rfl rfl) (by omega))
  · subst g1
    refine w_j (np := 150) (st' := []) rfl rfl rfl ?_
    refine w_t (np := 151) (l2 := [some (eR a0), some (eI (6))]) (s2 := [eR a0]) rfl (s_an rfl (pos_g hI gA0 (by decide))) rfl ?_
    refine w_t (np := 152) (l2 := [some (eR a0), some (eI (6))]) (s2 := [eR a0, eR a0]) rfl (s_an rfl (pos_g hI gA0 (by decide))) rfl ?_
    refine j_gr (np := 155) rfl rfl hI gA0 (by decide) (n := 14) rfl rfl rfl ?_
    intro v2 e3 b4 z5
    rcases hor2 b4 with b4 | b4
    · refine j_gr (np := 158) rfl rfl hI b4 (by decide) (n := 8) rfl rfl rfl ?_
      intro v6 e7 b8 z9
      rcases hor2 b8 with b8 | b8
      · refine j_gi (np := 161) rfl rfl rfl hI b8 (by decide) (n := 3) rfl rfl (lo := 0) (hi := 64) rfl ?_
        intro v10 e11 b12
        refine w_cw (np := 164) (as := [eI (v10)]) (l2 := [some (eR a0), some (eI (v10))]) (rest := []) rfl rfl rfl (Nat.ble_eq.mp rfl) rfl rfl rfl (hI.kd gA0 (by decide) (n := 14) rfl) rfl ?_
        refine w_t (np := 1) (l2 := [some (eR a0), some (eI (v10))]) (s2 := [eR a0]) rfl (s_an rfl (pos_g hI gA0 (by decide))) rfl ?_
        refine w_t (np := 2) (l2 := [some (eR a0), some (eI (v10))]) (s2 := [eI (0), eR a0]) rfl rfl rfl ?_
        refine j_pf (np := 5) (w := 0) rfl rfl hI gA0 (by decide) (n := 14) rfl rfl (hO_i (lo := -2147483648) (hi := 2147483647) rfl (by decide)) ?_
        intro m13 I14 W15
        have F16 : Fr l_158 0 0 g μ m13 := F0.w W15 gA0 rfl
        refine w_t (np := 6) (l2 := [some (eR a0), some (eI (v10))]) (s2 := [eI (v10)]) rfl rfl rfl ?_
        refine b_ri rfl rfl ?_
        show ex_q (dt_fg L ρ) rc (d + 7, (158, 164, [some (eR a0), some (eI (6))], [eI (v10)]), f :: F, m13)
        exact b_ri rfl rfl (K g m13 (v10) I14.re I14 (F16.up rfl rfl) (by omega))
      · refine j_gi (np := 161) rfl rfl rfl hI b8 (by decide) (n := 3) rfl rfl (lo := 0) (hi := 512) rfl ?_
        intro v10 e11 b12
        refine w_cw (np := 164) (as := [eI (v10)]) (l2 := [some (eR a0), some (eI (v10))]) (rest := []) rfl rfl rfl (Nat.ble_eq.mp rfl) rfl rfl rfl (hI.kd gA0 (by decide) (n := 14) rfl) rfl ?_
        refine w_t (np := 1) (l2 := [some (eR a0), some (eI (v10))]) (s2 := [eR a0]) rfl (s_an rfl (pos_g hI gA0 (by decide))) rfl ?_
        refine w_t (np := 2) (l2 := [some (eR a0), some (eI (v10))]) (s2 := [eI (0), eR a0]) rfl rfl rfl ?_
        refine j_pf (np := 5) (w := 0) rfl rfl hI gA0 (by decide) (n := 14) rfl rfl (hO_i (lo := -2147483648) (hi := 2147483647) rfl (by decide)) ?_
        intro m13 I14 W15
        have F16 : Fr l_158 0 0 g μ m13 := F0.w W15 gA0 rfl
        refine w_t (np := 6) (l2 := [some (eR a0), some (eI (v10))]) (s2 := [eI (v10)]) rfl rfl rfl ?_
        refine b_ri rfl rfl ?_
        show ex_q (dt_fg L ρ) rc (d + 7, (158, 164, [some (eR a0), some (eI (6))], [eI (v10)]), f :: F, m13)
        exact b_ri rfl rfl (K g m13 (v10) I14.re I14 (F16.up rfl rfl) (by omega))
    · refine j_gr (np := 158) rfl rfl hI b4 (by decide) (n := 8) rfl rfl rfl ?_
      intro v6 e7 b8 z9
      rcases hor2 b8 with b8 | b8
      · refine j_gi (np := 161) rfl rfl rfl hI b8 (by decide) (n := 3) rfl rfl (lo := 0) (hi := 64) rfl ?_
        intro v10 e11 b12
        refine w_cw (np := 164) (as := [eI (v10)]) (l2 := [some (eR a0), some (eI (v10))]) (rest := []) rfl rfl rfl (Nat.ble_eq.mp rfl) rfl rfl rfl (hI.kd gA0 (by decide) (n := 14) rfl) rfl ?_
        refine w_t (np := 1) (l2 := [some (eR a0), some (eI (v10))]) (s2 := [eR a0]) rfl (s_an rfl (pos_g hI gA0 (by decide))) rfl ?_
        refine w_t (np := 2) (l2 := [some (eR a0), some (eI (v10))]) (s2 := [eI (0), eR a0]) rfl rfl rfl ?_
        refine j_pf (np := 5) (w := 0) rfl rfl hI gA0 (by decide) (n := 14) rfl rfl (hO_i (lo := -2147483648) (hi := 2147483647) rfl (by decide)) ?_
        intro m13 I14 W15
        have F16 : Fr l_158 0 0 g μ m13 := F0.w W15 gA0 rfl
        refine w_t (np := 6) (l2 := [some (eR a0), some (eI (v10))]) (s2 := [eI (v10)]) rfl rfl rfl ?_
        refine b_ri rfl rfl ?_
        show ex_q (dt_fg L ρ) rc (d + 7, (158, 164, [some (eR a0), some (eI (6))], [eI (v10)]), f :: F, m13)
        exact b_ri rfl rfl (K g m13 (v10) I14.re I14 (F16.up rfl rfl) (by omega))
      · refine j_gi (np := 161) rfl rfl rfl hI b8 (by decide) (n := 3) rfl rfl (lo := 0) (hi := 512) rfl ?_
        intro v10 e11 b12
        refine w_cw (np := 164) (as := [eI (v10)]) (l2 := [some (eR a0), some (eI (v10))]) (rest := []) rfl rfl rfl (Nat.ble_eq.mp rfl) rfl rfl rfl (hI.kd gA0 (by decide) (n := 14) rfl) rfl ?_
        refine w_t (np := 1) (l2 := [some (eR a0), some (eI (v10))]) (s2 := [eR a0]) rfl (s_an rfl (pos_g hI gA0 (by decide))) rfl ?_
        refine w_t (np := 2) (l2 := [some (eR a0), some (eI (v10))]) (s2 := [eI (0), eR a0]) rfl rfl rfl ?_
        refine j_pf (np := 5) (w := 0) rfl rfl hI gA0 (by decide) (n := 14) rfl rfl (hO_i (lo := -2147483648) (hi := 2147483647) rfl (by decide)) ?_
        intro m13 I14 W15
        have F16 : Fr l_158 0 0 g μ m13 := F0.w W15 gA0 rfl
        refine w_t (np := 6) (l2 := [some (eR a0), some (eI (v10))]) (s2 := [eI (v10)]) rfl rfl rfl ?_
        refine b_ri rfl rfl ?_
        show ex_q (dt_fg L ρ) rc (d + 7, (158, 164, [some (eR a0), some (eI (6))], [eI (v10)]), f :: F, m13)
        exact b_ri rfl rfl (K g m13 (v10) I14.re I14 (F16.up rfl rfl) (by omega))
  · subst g1
    refine w_j (np := 165) (st' := []) rfl rfl rfl ?_
    refine w_t (np := 166) (l2 := [some (eR a0), some (eI (7))]) (s2 := [eR a0]) rfl (s_an rfl (pos_g hI gA0 (by decide))) rfl ?_
    refine w_t (np := 167) (l2 := [some (eR a0), some (eI (7))]) (s2 := [eR a0, eR a0]) rfl (s_an rfl (pos_g hI gA0 (by decide))) rfl ?_
    refine w_cw (np := 170) (as := []) (l2 := [some (eR a0), none]) (rest := [eR a0]) rfl rfl rfl (Nat.ble_eq.mp rfl) rfl rfl rfl (hI.kd gA0 (by decide) (n := 14) rfl) rfl ?_
    refine s_210 hI gA0 ?_
    intro g2 m3 v7 E4 I5 F6 b8
    have F9 : Fr l_158 13 10281 g μ m3 := F0.t F6 rfl
    show ex_q (dt_fg L ρ) rc (d + 7, (158, 170, [some (eR a0), some (eI (7))], [eR v7, eR a0]), f :: F, m3)
    refine j_gi (np := 173) rfl rfl rfl I5 b8 (by decide) (n := 10) rfl rfl (lo := -2147483648) (hi := 2147483647) rfl ?_
    intro v10 e11 b12
    refine w_cw (np := 176) (as := [eI (v10)]) (l2 := [some (eR a0), some (eI (v10))]) (rest := []) rfl rfl rfl (Nat.ble_eq.mp rfl) rfl rfl rfl (I5.kd (E4.g gA0 (by decide)) (by decide) (n := 14) rfl) rfl ?_
    refine w_t (np := 1) (l2 := [some (eR a0), some (eI (v10))]) (s2 := [eR a0]) rfl (s_an rfl (pos_g I5 (E4.g gA0 (by decide)) (by decide))) rfl ?_
    refine w_t (np := 2) (l2 := [some (eR a0), some (eI (v10))]) (s2 := [eI (0), eR a0]) rfl rfl rfl ?_
    refine j_pf (np := 5) (w := 0) rfl rfl I5 (E4.g gA0 (by decide)) (by decide) (n := 14) rfl rfl (hO_i (lo := -2147483648) (hi := 2147483647) rfl (by decide)) ?_
    intro m13 I14 W15
    have F16 : Fr l_158 13 10281 g μ m13 := F9.w3 E4 W15 (E4.g gA0 (by decide)) rfl
    refine w_t (np := 6) (l2 := [some (eR a0), some (eI (v10))]) (s2 := [eI (v10)]) rfl rfl rfl ?_
    refine b_ri rfl rfl ?_
    show ex_q (dt_fg L ρ) rc (d + 7, (158, 176, [some (eR a0), some (eI (7))], [eI (v10)]), f :: F, m13)
    exact b_ri rfl rfl (K g2 m13 (v10) E4 I14 F16 (by omega))
  · subst g1
    refine w_j (np := 177) (st' := []) rfl rfl rfl ?_
    refine w_t (np := 178) (l2 := [some (eR a0), some (eI (8))]) (s2 := [eR a0]) rfl (s_an rfl (pos_g hI gA0 (by decide))) rfl ?_
    refine w_t (np := 179) (l2 := [some (eR a0), some (eI (8))]) (s2 := [eR a0, eR a0]) rfl (s_an rfl (pos_g hI gA0 (by decide))) rfl ?_
    refine w_cw (np := 182) (as := []) (l2 := [some (eR a0)]) (rest := [eR a0]) rfl rfl rfl (Nat.ble_eq.mp rfl) rfl rfl rfl (hI.kd gA0 (by decide) (n := 14) rfl) rfl ?_
    refine s_209 hI gA0 ?_
    intro g2 m3 v7 E4 I5 F6 b8
    have F9 : Fr l_158 7 8159 g μ m3 := F0.t F6 rfl
    show ex_q (dt_fg L ρ) rc (d + 7, (158, 182, [some (eR a0), some (eI (8))], [eR v7, eR a0]), f :: F, m3)
    refine j_gi (np := 185) rfl rfl rfl I5 b8 (by decide) (n := 15) rfl rfl (lo := -2147483648) (hi := 2147483647) rfl ?_
    intro v10 e11 b12
    refine w_cw (np := 188) (as := [eI (v10)]) (l2 := [some (eR a0), some (eI (v10))]) (rest := []) rfl rfl rfl (Nat.ble_eq.mp rfl) rfl rfl rfl (I5.kd (E4.g gA0 (by decide)) (by decide) (n := 14) rfl) rfl ?_
    refine w_t (np := 1) (l2 := [some (eR a0), some (eI (v10))]) (s2 := [eR a0]) rfl (s_an rfl (pos_g I5 (E4.g gA0 (by decide)) (by decide))) rfl ?_
    refine w_t (np := 2) (l2 := [some (eR a0), some (eI (v10))]) (s2 := [eI (0), eR a0]) rfl rfl rfl ?_
    refine j_pf (np := 5) (w := 0) rfl rfl I5 (E4.g gA0 (by decide)) (by decide) (n := 14) rfl rfl (hO_i (lo := -2147483648) (hi := 2147483647) rfl (by decide)) ?_
    intro m13 I14 W15
    have F16 : Fr l_158 7 8159 g μ m13 := F9.w3 E4 W15 (E4.g gA0 (by decide)) rfl
    refine w_t (np := 6) (l2 := [some (eR a0), some (eI (v10))]) (s2 := [eI (v10)]) rfl rfl rfl ?_
    refine b_ri rfl rfl ?_
    show ex_q (dt_fg L ρ) rc (d + 7, (158, 188, [some (eR a0), some (eI (8))], [eI (v10)]), f :: F, m13)
    exact b_ri rfl rfl (K g2 m13 (v10) E4 I14 (F16.up rfl rfl) (by omega))
  · subst g1
    refine w_j (np := 189) (st' := []) rfl rfl rfl ?_
    refine w_t (np := 190) (l2 := [some (eR a0), some (eI (9))]) (s2 := [eR a0]) rfl (s_an rfl (pos_g hI gA0 (by decide))) rfl ?_
    refine w_t (np := 191) (l2 := [some (eR a0), some (eI (9))]) (s2 := [eR a0, eR a0]) rfl (s_an rfl (pos_g hI gA0 (by decide))) rfl ?_
    refine w_cw (np := 194) (as := []) (l2 := [some (eR a0)]) (rest := [eR a0]) rfl rfl rfl (Nat.ble_eq.mp rfl) rfl rfl rfl (hI.kd gA0 (by decide) (n := 14) rfl) rfl ?_
    refine s_209 hI gA0 ?_
    intro g2 m3 v7 E4 I5 F6 b8
    have F9 : Fr l_158 7 8159 g μ m3 := F0.t F6 rfl
    show ex_q (dt_fg L ρ) rc (d + 7, (158, 194, [some (eR a0), some (eI (9))], [eR v7, eR a0]), f :: F, m3)
    refine j_gi (np := 197) rfl rfl rfl I5 b8 (by decide) (n := 15) rfl rfl (lo := -2147483648) (hi := 2147483647) rfl ?_
    intro v10 e11 b12
    refine w_cw (np := 200) (as := [eI (v10)]) (l2 := [some (eR a0), some (eI (v10))]) (rest := []) rfl rfl rfl (Nat.ble_eq.mp rfl) rfl rfl rfl (I5.kd (E4.g gA0 (by decide)) (by decide) (n := 14) rfl) rfl ?_
    refine w_t (np := 1) (l2 := [some (eR a0), some (eI (v10))]) (s2 := [eR a0]) rfl (s_an rfl (pos_g I5 (E4.g gA0 (by decide)) (by decide))) rfl ?_
    refine w_t (np := 2) (l2 := [some (eR a0), some (eI (v10))]) (s2 := [eI (0), eR a0]) rfl rfl rfl ?_
    refine j_pf (np := 5) (w := 0) rfl rfl I5 (E4.g gA0 (by decide)) (by decide) (n := 14) rfl rfl (hO_i (lo := -2147483648) (hi := 2147483647) rfl (by decide)) ?_
    intro m13 I14 W15
    have F16 : Fr l_158 7 8159 g μ m13 := F9.w3 E4 W15 (E4.g gA0 (by decide)) rfl
    refine w_t (np := 6) (l2 := [some (eR a0), some (eI (v10))]) (s2 := [eI (v10)]) rfl rfl rfl ?_
    refine b_ri rfl rfl ?_
    show ex_q (dt_fg L ρ) rc (d + 7, (158, 200, [some (eR a0), some (eI (9))], [eI (v10)]), f :: F, m13)
    exact b_ri rfl rfl (K g2 m13 (v10) E4 I14 (F16.up rfl rfl) (by omega))
  · subst g1
    refine w_j (np := 201) (st' := []) rfl rfl rfl ?_
    refine w_t (np := 202) (l2 := [some (eR a0), some (eI (10))]) (s2 := [eR a0]) rfl (s_an rfl (pos_g hI gA0 (by decide))) rfl ?_
    refine w_t (np := 203) (l2 := [some (eR a0), some (eI (10))]) (s2 := [eR a0, eR a0]) rfl (s_an rfl (pos_g hI gA0 (by decide))) rfl ?_
    refine w_cw (np := 206) (as := []) (l2 := [some (eR a0)]) (rest := [eR a0]) rfl rfl rfl (Nat.ble_eq.mp rfl) rfl rfl rfl (hI.kd gA0 (by decide) (n := 14) rfl) rfl ?_
    refine s_209 hI gA0 ?_
    intro g2 m3 v7 E4 I5 F6 b8
    have F9 : Fr l_158 7 8159 g μ m3 := F0.t F6 rfl
    show ex_q (dt_fg L ρ) rc (d + 7, (158, 206, [some (eR a0), some (eI (10))], [eR v7, eR a0]), f :: F, m3)
    refine j_gi (np := 209) rfl rfl rfl I5 b8 (by decide) (n := 15) rfl rfl (lo := -2147483648) (hi := 2147483647) rfl ?_
    intro v10 e11 b12
    refine w_cw (np := 212) (as := [eI (v10)]) (l2 := [some (eR a0), some (eI (v10))]) (rest := []) rfl rfl rfl (Nat.ble_eq.mp rfl) rfl rfl rfl (I5.kd (E4.g gA0 (by decide)) (by decide) (n := 14) rfl) rfl ?_
    refine w_t (np := 1) (l2 := [some (eR a0), some (eI (v10))]) (s2 := [eR a0]) rfl (s_an rfl (pos_g I5 (E4.g gA0 (by decide)) (by decide))) rfl ?_
    refine w_t (np := 2) (l2 := [some (eR a0), some (eI (v10))]) (s2 := [eI (0), eR a0]) rfl rfl rfl ?_
    refine j_pf (np := 5) (w := 0) rfl rfl I5 (E4.g gA0 (by decide)) (by decide) (n := 14) rfl rfl (hO_i (lo := -2147483648) (hi := 2147483647) rfl (by decide)) ?_
    intro m13 I14 W15
    have F16 : Fr l_158 7 8159 g μ m13 := F9.w3 E4 W15 (E4.g gA0 (by decide)) rfl
    refine w_t (np := 6) (l2 := [some (eR a0), some (eI (v10))]) (s2 := [eI (v10)]) rfl rfl rfl ?_
    refine b_ri rfl rfl ?_
    show ex_q (dt_fg L ρ) rc (d + 7, (158, 212, [some (eR a0), some (eI (10))], [eI (v10)]), f :: F, m13)
    exact b_ri rfl rfl (K g2 m13 (v10) E4 I14 (F16.up rfl rfl) (by omega))
  · subst g1
    refine w_j (np := 213) (st' := []) rfl rfl rfl ?_
    refine w_t (np := 214) (l2 := [some (eR a0), some (eI (11))]) (s2 := [eR a0]) rfl (s_an rfl (pos_g hI gA0 (by decide))) rfl ?_
    refine w_t (np := 215) (l2 := [some (eR a0), some (eI (11))]) (s2 := [eR a0, eR a0]) rfl (s_an rfl (pos_g hI gA0 (by decide))) rfl ?_
    refine j_gr (np := 218) rfl rfl hI gA0 (by decide) (n := 14) rfl rfl rfl ?_
    intro v2 e3 b4 z5
    rcases hor2 b4 with b4 | b4
    · refine j_gi (np := 221) rfl rfl rfl hI b4 (by decide) (n := 8) rfl rfl (lo := 0) (hi := 50) rfl ?_
      intro v6 e7 b8
      refine w_t (np := 222) (l2 := [some (eR a0), some (eI (11))]) (s2 := [eI (2), eI (v6), eR a0]) rfl rfl rfl ?_
      refine w_t (np := 223) (l2 := [some (eR a0), some (eI (11))]) (s2 := [eR a0, eI (2), eI (v6), eR a0]) rfl (s_an rfl (pos_g hI gA0 (by decide))) rfl ?_
      refine w_cw (np := 226) (as := []) (l2 := [some (eR a0)]) (rest := [eI (2), eI (v6), eR a0]) rfl rfl rfl (Nat.ble_eq.mp rfl) rfl rfl rfl (hI.kd gA0 (by decide) (n := 14) rfl) rfl ?_
      refine s_209 hI gA0 ?_
      intro g9 m10 v14 E11 I12 F13 b15
      have F16 : Fr l_158 7 8159 g μ m10 := F0.t F13 rfl
      show ex_q (dt_fg L ρ) rc (d + 7, (158, 226, [some (eR a0), some (eI (11))], [eR v14, eI (2), eI (v6), eR a0]), f :: F, m10)
      refine j_gi (np := 229) rfl rfl rfl I12 b15 (by decide) (n := 15) rfl rfl (lo := -2147483648) (hi := 2147483647) rfl ?_
      intro v17 e18 b19
      obtain ⟨v20, e21, b22⟩ : ∃ zz : Int, ev_w ((2) * (v17)) = zz ∧ (-2147483648 ≤ zz ∧ zz ≤ 2147483647) := ⟨_, rfl, hw_bd _⟩
      refine w_t (np := 230) (l2 := [some (eR a0), some (eI (11))]) (s2 := [eI (v20), eI (v6), eR a0]) rfl (b_imul e21) rfl ?_
      obtain ⟨v23, e24, b25⟩ : ∃ zz : Int, ev_w ((v6) - (v20)) = zz ∧ (-2147483648 ≤ zz ∧ zz ≤ 2147483647) := ⟨_, rfl, hw_bd _⟩
      refine w_t (np := 231) (l2 := [some (eR a0), some (eI (11))]) (s2 := [eI (v23), eR a0]) rfl (b_isub e24) rfl ?_
      refine w_cw (np := 234) (as := [eI (v23)]) (l2 := [some (eR a0), some (eI (v23))]) (rest := []) rfl rfl rfl (Nat.ble_eq.mp rfl) rfl rfl rfl (I12.kd (E11.g gA0 (by decide)) (by decide) (n := 14) rfl) rfl ?_
      refine w_t (np := 1) (l2 := [some (eR a0), some (eI (v23))]) (s2 := [eR a0]) rfl (s_an rfl (pos_g I12 (E11.g gA0 (by decide)) (by decide))) rfl ?_
      refine w_t (np := 2) (l2 := [some (eR a0), some (eI (v23))]) (s2 := [eI (0), eR a0]) rfl rfl rfl ?_
      refine j_pf (np := 5) (w := 0) rfl rfl I12 (E11.g gA0 (by decide)) (by decide) (n := 14) rfl rfl (hO_i (lo := -2147483648) (hi := 2147483647) rfl (by decide)) ?_
      intro m26 I27 W28
      have F29 : Fr l_158 7 8159 g μ m26 := F16.w3 E11 W28 (E11.g gA0 (by decide)) rfl
      refine w_t (np := 6) (l2 := [some (eR a0), some (eI (v23))]) (s2 := [eI (v23)]) rfl rfl rfl ?_
      refine b_ri rfl rfl ?_
      show ex_q (dt_fg L ρ) rc (d + 7, (158, 234, [some (eR a0), some (eI (11))], [eI (v23)]), f :: F, m26)
      exact b_ri rfl rfl (K g9 m26 (v23) E11 I27 (F29.up rfl rfl) (by omega))
    · refine j_gi (np := 221) rfl rfl rfl hI b4 (by decide) (n := 8) rfl rfl (lo := 0) (hi := 890) rfl ?_
      intro v6 e7 b8
      refine w_t (np := 222) (l2 := [some (eR a0), some (eI (11))]) (s2 := [eI (2), eI (v6), eR a0]) rfl rfl rfl ?_
      refine w_t (np := 223) (l2 := [some (eR a0), some (eI (11))]) (s2 := [eR a0, eI (2), eI (v6), eR a0]) rfl (s_an rfl (pos_g hI gA0 (by decide))) rfl ?_
      refine w_cw (np := 226) (as := []) (l2 := [some (eR a0)]) (rest := [eI (2), eI (v6), eR a0]) rfl rfl rfl (Nat.ble_eq.mp rfl) rfl rfl rfl (hI.kd gA0 (by decide) (n := 14) rfl) rfl ?_
      refine s_209 hI gA0 ?_
      intro g9 m10 v14 E11 I12 F13 b15
      have F16 : Fr l_158 7 8159 g μ m10 := F0.t F13 rfl
      show ex_q (dt_fg L ρ) rc (d + 7, (158, 226, [some (eR a0), some (eI (11))], [eR v14, eI (2), eI (v6), eR a0]), f :: F, m10)
      refine j_gi (np := 229) rfl rfl rfl I12 b15 (by decide) (n := 15) rfl rfl (lo := -2147483648) (hi := 2147483647) rfl ?_
      intro v17 e18 b19
      obtain ⟨v20, e21, b22⟩ : ∃ zz : Int, ev_w ((2) * (v17)) = zz ∧ (-2147483648 ≤ zz ∧ zz ≤ 2147483647) := ⟨_, rfl, hw_bd _⟩
      refine w_t (np := 230) (l2 := [some (eR a0), some (eI (11))]) (s2 := [eI (v20), eI (v6), eR a0]) rfl (b_imul e21) rfl ?_
      obtain ⟨v23, e24, b25⟩ : ∃ zz : Int, ev_w ((v6) - (v20)) = zz ∧ (-2147483648 ≤ zz ∧ zz ≤ 2147483647) := ⟨_, rfl, hw_bd _⟩
      refine w_t (np := 231) (l2 := [some (eR a0), some (eI (11))]) (s2 := [eI (v23), eR a0]) rfl (b_isub e24) rfl ?_
      refine w_cw (np := 234) (as := [eI (v23)]) (l2 := [some (eR a0), some (eI (v23))]) (rest := []) rfl rfl rfl (Nat.ble_eq.mp rfl) rfl rfl rfl (I12.kd (E11.g gA0 (by decide)) (by decide) (n := 14) rfl) rfl ?_
      refine w_t (np := 1) (l2 := [some (eR a0), some (eI (v23))]) (s2 := [eR a0]) rfl (s_an rfl (pos_g I12 (E11.g gA0 (by decide)) (by decide))) rfl ?_
      refine w_t (np := 2) (l2 := [some (eR a0), some (eI (v23))]) (s2 := [eI (0), eR a0]) rfl rfl rfl ?_
      refine j_pf (np := 5) (w := 0) rfl rfl I12 (E11.g gA0 (by decide)) (by decide) (n := 14) rfl rfl (hO_i (lo := -2147483648) (hi := 2147483647) rfl (by decide)) ?_
      intro m26 I27 W28
      have F29 : Fr l_158 7 8159 g μ m26 := F16.w3 E11 W28 (E11.g gA0 (by decide)) rfl
      refine w_t (np := 6) (l2 := [some (eR a0), some (eI (v23))]) (s2 := [eI (v23)]) rfl rfl rfl ?_
      refine b_ri rfl rfl ?_
      show ex_q (dt_fg L ρ) rc (d + 7, (158, 234, [some (eR a0), some (eI (11))], [eI (v23)]), f :: F, m26)
      exact b_ri rfl rfl (K g9 m26 (v23) E11 I27 (F29.up rfl rfl) (by omega))
  · subst g1
    refine w_j (np := 235) (st' := []) rfl rfl rfl ?_
    refine w_t (np := 236) (l2 := [some (eR a0), some (eI (12))]) (s2 := [eR a0]) rfl (s_an rfl (pos_g hI gA0 (by decide))) rfl ?_
    refine w_t (np := 237) (l2 := [some (eR a0), some (eI (12))]) (s2 := [eR a0, eR a0]) rfl (s_an rfl (pos_g hI gA0 (by decide))) rfl ?_
    refine w_cw (np := 240) (as := []) (l2 := [some (eR a0), none]) (rest := [eR a0]) rfl rfl rfl (Nat.ble_eq.mp rfl) rfl rfl rfl (hI.kd gA0 (by decide) (n := 14) rfl) rfl ?_
    refine s_210 hI gA0 ?_
    intro g2 m3 v7 E4 I5 F6 b8
    have F9 : Fr l_158 13 10281 g μ m3 := F0.t F6 rfl
    show ex_q (dt_fg L ρ) rc (d + 7, (158, 240, [some (eR a0), some (eI (12))], [eR v7, eR a0]), f :: F, m3)
    refine j_gi (np := 243) rfl rfl rfl I5 b8 (by decide) (n := 10) rfl rfl (lo := 0) (hi := 64) rfl ?_
    intro v10 e11 b12
    refine w_cw (np := 246) (as := [eI (v10)]) (l2 := [some (eR a0), some (eI (v10))]) (rest := []) rfl rfl rfl (Nat.ble_eq.mp rfl) rfl rfl rfl (I5.kd (E4.g gA0 (by decide)) (by decide) (n := 14) rfl) rfl ?_
    refine w_t (np := 1) (l2 := [some (eR a0), some (eI (v10))]) (s2 := [eR a0]) rfl (s_an rfl (pos_g I5 (E4.g gA0 (by decide)) (by decide))) rfl ?_
    refine w_t (np := 2) (l2 := [some (eR a0), some (eI (v10))]) (s2 := [eI (0), eR a0]) rfl rfl rfl ?_
    refine j_pf (np := 5) (w := 0) rfl rfl I5 (E4.g gA0 (by decide)) (by decide) (n := 14) rfl rfl (hO_i (lo := -2147483648) (hi := 2147483647) rfl (by decide)) ?_
    intro m13 I14 W15
    have F16 : Fr l_158 13 10281 g μ m13 := F9.w3 E4 W15 (E4.g gA0 (by decide)) rfl
    refine w_t (np := 6) (l2 := [some (eR a0), some (eI (v10))]) (s2 := [eI (v10)]) rfl rfl rfl ?_
    refine b_ri rfl rfl ?_
    show ex_q (dt_fg L ρ) rc (d + 7, (158, 246, [some (eR a0), some (eI (12))], [eI (v10)]), f :: F, m13)
    exact b_ri rfl rfl (K g2 m13 (v10) E4 I14 F16 (by omega))
  · subst g1
    refine w_j (np := 247) (st' := []) rfl rfl rfl ?_
    refine w_t (np := 248) (l2 := [some (eR a0), some (eI (13))]) (s2 := [eR a0]) rfl (s_an rfl (pos_g hI gA0 (by decide))) rfl ?_
    refine w_t (np := 249) (l2 := [some (eR a0), some (eI (13))]) (s2 := [eR a0, eR a0]) rfl (s_an rfl (pos_g hI gA0 (by decide))) rfl ?_
    refine j_gr (np := 252) rfl rfl hI gA0 (by decide) (n := 14) rfl rfl rfl ?_
    intro v2 e3 b4 z5
    have b4 : g v2 = 29 := Nat.eq_of_beq_eq_true b4
    refine j_gi (np := 255) rfl rfl rfl hI b4 (by decide) (n := 7) rfl rfl (lo := 0) (hi := 24) rfl ?_
    intro v6 e7 b8
    refine w_cw (np := 258) (as := [eI (v6)]) (l2 := [some (eR a0), some (eI (v6))]) (rest := []) rfl rfl rfl (Nat.ble_eq.mp rfl) rfl rfl rfl (hI.kd gA0 (by decide) (n := 14) rfl) rfl ?_
    refine w_t (np := 1) (l2 := [some (eR a0), some (eI (v6))]) (s2 := [eR a0]) rfl (s_an rfl (pos_g hI gA0 (by decide))) rfl ?_
    refine w_t (np := 2) (l2 := [some (eR a0), some (eI (v6))]) (s2 := [eI (0), eR a0]) rfl rfl rfl ?_
    refine j_pf (np := 5) (w := 0) rfl rfl hI gA0 (by decide) (n := 14) rfl rfl (hO_i (lo := -2147483648) (hi := 2147483647) rfl (by decide)) ?_
    intro m9 I10 W11
    have F12 : Fr l_158 0 0 g μ m9 := F0.w W11 gA0 rfl
    refine w_t (np := 6) (l2 := [some (eR a0), some (eI (v6))]) (s2 := [eI (v6)]) rfl rfl rfl ?_
    refine b_ri rfl rfl ?_
    show ex_q (dt_fg L ρ) rc (d + 7, (158, 258, [some (eR a0), some (eI (13))], [eI (v6)]), f :: F, m9)
    exact b_ri rfl rfl (K g m9 (v6) I10.re I10 (F12.up rfl rfl) (by omega))
  · subst g1
    refine w_j (np := 259) (st' := []) rfl rfl rfl ?_
    refine w_t (np := 260) (l2 := [some (eR a0), some (eI (14))]) (s2 := [eR a0]) rfl (s_an rfl (pos_g hI gA0 (by decide))) rfl ?_
    refine w_t (np := 261) (l2 := [some (eR a0), some (eI (14))]) (s2 := [eR a0, eR a0]) rfl (s_an rfl (pos_g hI gA0 (by decide))) rfl ?_
    refine j_gr (np := 264) rfl rfl hI gA0 (by decide) (n := 14) rfl rfl rfl ?_
    intro v2 e3 b4 z5
    have b4 : g v2 = 29 := Nat.eq_of_beq_eq_true b4
    refine j_gi (np := 267) rfl rfl rfl hI b4 (by decide) (n := 7) rfl rfl (lo := 0) (hi := 96) rfl ?_
    intro v6 e7 b8
    refine w_cw (np := 270) (as := [eI (v6)]) (l2 := [some (eR a0), some (eI (v6))]) (rest := []) rfl rfl rfl (Nat.ble_eq.mp rfl) rfl rfl rfl (hI.kd gA0 (by decide) (n := 14) rfl) rfl ?_
    refine w_t (np := 1) (l2 := [some (eR a0), some (eI (v6))]) (s2 := [eR a0]) rfl (s_an rfl (pos_g hI gA0 (by decide))) rfl ?_
    refine w_t (np := 2) (l2 := [some (eR a0), some (eI (v6))]) (s2 := [eI (0), eR a0]) rfl rfl rfl ?_
    refine j_pf (np := 5) (w := 0) rfl rfl hI gA0 (by decide) (n := 14) rfl rfl (hO_i (lo := -2147483648) (hi := 2147483647) rfl (by decide)) ?_
    intro m9 I10 W11
    have F12 : Fr l_158 0 0 g μ m9 := F0.w W11 gA0 rfl
    refine w_t (np := 6) (l2 := [some (eR a0), some (eI (v6))]) (s2 := [eI (v6)]) rfl rfl rfl ?_
    refine b_ri rfl rfl ?_
    show ex_q (dt_fg L ρ) rc (d + 7, (158, 270, [some (eR a0), some (eI (14))], [eI (v6)]), f :: F, m9)
    exact b_ri rfl rfl (K g m9 (v6) I10.re I10 (F12.up rfl rfl) (by omega))
  · refine w_j (np := 271) (st' := []) rfl rfl (tab_d (ev_w_in (by omega) (by omega)) g1 rfl) ?_
    refine w_t (np := 272) (l2 := [some (eR a0), some (eI (a1))]) (s2 := [eR a0]) rfl (s_an rfl (pos_g hI gA0 (by decide))) rfl ?_
    refine w_t (np := 273) (l2 := [some (eR a0), some (eI (a1))]) (s2 := [eI (1), eR a0]) rfl rfl rfl ?_
    refine w_cw (np := 276) (as := [eI (1)]) (l2 := [some (eR a0), some (eI (1))]) (rest := []) rfl rfl rfl (Nat.ble_eq.mp rfl) rfl rfl rfl (hI.kd gA0 (by decide) (n := 14) rfl) rfl ?_
    refine w_t (np := 1) (l2 := [some (eR a0), some (eI (1))]) (s2 := [eR a0]) rfl (s_an rfl (pos_g hI gA0 (by decide))) rfl ?_
    refine w_t (np := 2) (l2 := [some (eR a0), some (eI (1))]) (s2 := [eI (1), eR a0]) rfl rfl rfl ?_
    refine j_pf (np := 5) (w := 1) rfl rfl hI gA0 (by decide) (n := 14) rfl rfl (hO_i (lo := -2147483648) (hi := 2147483647) rfl (by decide)) ?_
    intro m2 I3 W4
    have F5 : Fr l_158 0 0 g μ m2 := F0.w W4 gA0 rfl
    refine w_t (np := 6) (l2 := [some (eR a0), some (eI (1))]) (s2 := [eI (-1)]) rfl rfl rfl ?_
    refine b_ri rfl rfl ?_
    show ex_q (dt_fg L ρ) rc (d + 7, (158, 276, [some (eR a0), some (eI (a1))], [eI (-1)]), f :: F, m2)
    exact b_ri rfl rfl (K g m2 (-1) I3.re I3 (F5.up rfl rfl) (by decide))
def l_159 : List Nat := [268, 270, 265, 8971, 8972, 8973, 8968, 8969, 8970, 9216, 9472, 9728]
theorem s_159 {L : Nat} {ρ : Nat → Int} {rc : eQ} {d : Nat} {f : eFr} {F : List eFr} {μ : eM} {g : Nat → Nat} {a0 : Nat} {a1 : Int} {a2 : Int} (hI : SI g μ) (gA0 : g a0 = 1) (bA1 : -2147483648 ≤ a1 ∧ a1 ≤ 2147483647) (bA2 : -2147483648 ≤ a2 ∧ a2 ≤ 2147483647) (K : ∀ (g2 : Nat → Nat) (μ2 : eM) (v : Int), GE g g2 → SI g2 μ2 → Fr l_159 7 8159 g μ μ2 → (-2147483648 ≤ v ∧ v ≤ 2147483647) → ex_q (dt_fg L ρ) rc (d + 7, (f.1, f.2.1, f.2.2.1, eI v :: f.2.2.2), F, μ2)) : ex_q (dt_fg L ρ) rc (d + 6, (159, 0, [some (eR a0), some (eI (a1)), some (eI (a2))], []), f :: F, μ) := by
  have F0 : Fr l_159 0 0 g μ μ := Fr.r
  refine w_t (np := 1) (l2 := [some (eR a0), some (eI (a1)), some (eI (a2))]) (s2 := [eI (a2)]) rfl rfl rfl ?_
  refine b_ilt (t1 := 10) (t2 := 4) rfl rfl rfl (ev_w_in (by omega) (by omega)) (fun g1 => ?_) (fun g1 => ?_)
  · have b2 : -2147483648 ≤ a2 ∧ a2 ≤ -1 := by omega
    refine w_t (np := 11) (l2 := [some (eR a0), some (eI (a1)), some (eI (a2))]) (s2 := [eR a0]) rfl (s_an rfl (pos_g hI gA0 (by decide))) rfl ?_
    refine w_t (np := 12) (l2 := [some (eR a0), some (eI (a1)), some (eI (a2))]) (s2 := [eI (1), eR a0]) rfl rfl rfl ?_
    refine w_cw (np := 15) (as := [eI (1)]) (l2 := [some (eR a0), some (eI (1))]) (rest := []) rfl rfl rfl (Nat.ble_eq.mp rfl) rfl rfl rfl (hI.kd gA0 (by decide) (n := 14) rfl) rfl ?_
    refine w_t (np := 1) (l2 := [some (eR a0), some (eI (1))]) (s2 := [eR a0]) rfl (s_an rfl (pos_g hI gA0 (by decide))) rfl ?_
    refine w_t (np := 2) (l2 := [some (eR a0), some (eI (1))]) (s2 := [eI (1), eR a0]) rfl rfl rfl ?_
    refine j_pf (np := 5) (w := 1) rfl rfl hI gA0 (by decide) (n := 14) rfl rfl (hO_i (lo := -2147483648) (hi := 2147483647) rfl (by decide)) ?_
    intro m2 I3 W4
    have F5 : Fr l_159 0 0 g μ m2 := F0.w W4 gA0 rfl
    refine w_t (np := 6) (l2 := [some (eR a0), some (eI (1))]) (s2 := [eI (-1)]) rfl rfl rfl ?_
    refine b_ri rfl rfl ?_
    show ex_q (dt_fg L ρ) rc (d + 6, (159, 15, [some (eR a0), some (eI (a1)), some (eI (a2))], [eI (-1)]), f :: F, m2)
    exact b_ri rfl rfl (K g m2 (-1) I3.re I3 (F5.up rfl rfl) (by decide))
  · have b2 : 0 ≤ a2 ∧ a2 ≤ 2147483647 := by omega
    refine w_t (np := 5) (l2 := [some (eR a0), some (eI (a1)), some (eI (a2))]) (s2 := [eI (a2)]) rfl rfl rfl ?_
    refine w_t (np := 7) (l2 := [some (eR a0), some (eI (a1)), some (eI (a2))]) (s2 := [eI (6), eI (a2)]) rfl rfl rfl ?_
    refine b_cle (t1 := 16) (t2 := 10) rfl rfl rfl (ev_w_in (by omega) (by omega)) rfl (fun g2 => ?_) (fun g2 => ?_)
    · have b3 : 0 ≤ a2 ∧ a2 ≤ 6 := by omega
      refine w_t (np := 17) (l2 := [some (eR a0), some (eI (a1)), some (eI (a2))]) (s2 := [eR a0]) rfl (s_an rfl (pos_g hI gA0 (by decide))) rfl ?_
      refine j_gr (np := 20) rfl rfl hI gA0 (by decide) (n := 14) rfl rfl rfl ?_
      intro v3 e4 b5 z6
      rcases hor2 b5 with b5 | b5
      · refine w_t (np := 21) (l2 := [some (eR a0), some (eI (a1)), some (eI (a2))]) (s2 := [eI (a1), eR v3]) rfl rfl rfl ?_
        refine w_cw (np := 24) (as := [eI (a1)]) (l2 := [some (eR v3), some (eI (a1))]) (rest := []) rfl rfl rfl (Nat.ble_eq.mp rfl) rfl rfl rfl (hI.kd b5 (by decide) (n := 8) rfl) rfl ?_
        refine w_t (np := 1) (l2 := [some (eR v3), some (eI (a1))]) (s2 := [eI (a1)]) rfl rfl rfl ?_
        refine b_ilt (t1 := 12) (t2 := 4) rfl rfl rfl (ev_w_in (by omega) (by omega)) (fun g7 => ?_) (fun g7 => ?_)
        · have b8 : -2147483648 ≤ a1 ∧ a1 ≤ -1 := by omega
          refine w_t (np := 13) (l2 := [some (eR v3), some (eI (a1))]) (s2 := [eI (1)]) rfl rfl rfl ?_
          refine w_go (t1 := 17) rfl rfl ?_
          refine b_rz rfl rfl (Or.inr rfl) ?_
          show ex_q (dt_fg L ρ) rc (d + 6, (159, 24, [some (eR a0), some (eI (a1)), some (eI (a2))], [eI (1)]), f :: F, μ)
          refine b_ieq (t1 := 33) (t2 := 27) rfl rfl rfl rfl (fun g8 => absurd g8 (by decide)) (fun g8 => ?_)
          refine w_t (np := 28) (l2 := [some (eR a0), some (eI (a1)), some (eI (a2))]) (s2 := [eR a0]) rfl (s_an rfl (pos_g hI gA0 (by decide))) rfl ?_
          refine w_t (np := 29) (l2 := [some (eR a0), some (eI (a1)), some (eI (a2))]) (s2 := [eI (2), eR a0]) rfl rfl rfl ?_
          refine w_cw (np := 32) (as := [eI (2)]) (l2 := [some (eR a0), some (eI (2))]) (rest := []) rfl rfl rfl (Nat.ble_eq.mp rfl) rfl rfl rfl (hI.kd gA0 (by decide) (n := 14) rfl) rfl ?_
          refine w_t (np := 1) (l2 := [some (eR a0), some (eI (2))]) (s2 := [eR a0]) rfl (s_an rfl (pos_g hI gA0 (by decide))) rfl ?_
          refine w_t (np := 2) (l2 := [some (eR a0), some (eI (2))]) (s2 := [eI (2), eR a0]) rfl rfl rfl ?_
          refine j_pf (np := 5) (w := 2) rfl rfl hI gA0 (by decide) (n := 14) rfl rfl (hO_i (lo := -2147483648) (hi := 2147483647) rfl (by decide)) ?_
          intro m9 I10 W11
          have F12 : Fr l_159 0 0 g μ m9 := F0.w W11 gA0 rfl
          refine w_t (np := 6) (l2 := [some (eR a0), some (eI (2))]) (s2 := [eI (-1)]) rfl rfl rfl ?_
          refine b_ri rfl rfl ?_
          show ex_q (dt_fg L ρ) rc (d + 6, (159, 32, [some (eR a0), some (eI (a1)), some (eI (a2))], [eI (-1)]), f :: F, m9)
          exact b_ri rfl rfl (K g m9 (-1) I10.re I10 (F12.up rfl rfl) (by decide))
        · have b8 : 0 ≤ a1 ∧ a1 ≤ 2147483647 := by omega
          refine w_t (np := 5) (l2 := [some (eR v3), some (eI (a1))]) (s2 := [eI (a1)]) rfl rfl rfl ?_
          refine w_t (np := 6) (l2 := [some (eR v3), some (eI (a1))]) (s2 := [eR v3, eI (a1)]) rfl (s_an rfl (pos_g hI b5 (by decide))) rfl ?_
          refine j_gi (np := 9) rfl rfl rfl hI b5 (by decide) (n := 8) rfl rfl (lo := 0) (hi := 50) rfl ?_
          intro v8 e9 b10
          refine b_clt (t1 := 16) (t2 := 12) rfl rfl rfl (ev_w_in (by omega) (by omega)) (ev_w_in (by omega) (by omega)) (fun g11 => ?_) (fun g11 => ?_)
          · have b12 : 0 ≤ a1 ∧ a1 ≤ 49 := by omega
            have b13 : 1 ≤ v8 ∧ v8 ≤ 50 := by omega
            refine w_t (np := 17) (l2 := [some (eR v3), some (eI (a1))]) (s2 := [eI (0)]) rfl rfl rfl ?_
            refine b_rz rfl rfl (Or.inl rfl) ?_
            show ex_q (dt_fg L ρ) rc (d + 6, (159, 24, [some (eR a0), some (eI (a1)), some (eI (a2))], [eI (0)]), f :: F, μ)
            refine b_ieq (t1 := 33) (t2 := 27) rfl rfl rfl rfl (fun g12 => ?_) (fun g12 => absurd g12 (by decide))
            refine w_t (np := 34) (l2 := [some (eR a0), some (eI (a1)), some (eI (a2))]) (s2 := [eI (a2)]) rfl rfl rfl ?_
            rcases (show a2 = 0 ∨ a2 = 1 ∨ a2 = 2 ∨ a2 = 3 ∨ a2 = 4 ∨ a2 = 5 ∨ a2 = 6 by omega) with g13 | g13 | g13 | g13 | g13 | g13 | g13
            · subst g13
              refine w_j (np := 72) (st' := []) rfl rfl rfl ?_
              refine w_t (np := 73) (l2 := [some (eR a0), some (eI (a1)), some (eI (0))]) (s2 := [eR a0]) rfl (s_an rfl (pos_g hI gA0 (by decide))) rfl ?_
              refine w_t (np := 74) (l2 := [some (eR a0), some (eI (a1)), some (eI (0))]) (s2 := [eR a0, eR a0]) rfl (s_an rfl (pos_g hI gA0 (by decide))) rfl ?_
              refine w_gf (np := 77) (v := eR v3) rfl rfl (hI.kd gA0 (by decide) (n := 14) rfl) (by rw [e4]; rfl) ?_
              refine w_t (np := 78) (l2 := [some (eR a0), some (eI (a1)), some (eI (0))]) (s2 := [eI (a1), eR v3, eR a0]) rfl rfl rfl ?_
              refine w_cw (np := 81) (as := [eI (a1)]) (l2 := [some (eR v3), some (eI (a1))]) (rest := [eR a0]) rfl rfl rfl (Nat.ble_eq.mp rfl) rfl rfl rfl (hI.kd b5 (by decide) (n := 8) rfl) rfl ?_
              refine s_19 (a1 := a1) hI b5 (by omega) ?_
              intro v14 b15
              show ex_q (dt_fg L ρ) rc (d + 6, (159, 81, [some (eR a0), some (eI (a1)), some (eI (0))], [eI (v14), eR a0]), f :: F, μ)
              refine w_cw (np := 84) (as := [eI (v14)]) (l2 := [some (eR a0), some (eI (v14))]) (rest := []) rfl rfl rfl (Nat.ble_eq.mp rfl) rfl rfl rfl (hI.kd gA0 (by decide) (n := 14) rfl) rfl ?_
              refine w_t (np := 1) (l2 := [some (eR a0), some (eI (v14))]) (s2 := [eR a0]) rfl (s_an rfl (pos_g hI gA0 (by decide))) rfl ?_
              refine w_t (np := 2) (l2 := [some (eR a0), some (eI (v14))]) (s2 := [eI (0), eR a0]) rfl rfl rfl ?_
              refine j_pf (np := 5) (w := 0) rfl rfl hI gA0 (by decide) (n := 14) rfl rfl (hO_i (lo := -2147483648) (hi := 2147483647) rfl (by decide)) ?_
              intro m16 I17 W18
              have F19 : Fr l_159 0 0 g μ m16 := F0.w W18 gA0 rfl
              refine w_t (np := 6) (l2 := [some (eR a0), some (eI (v14))]) (s2 := [eI (v14)]) rfl rfl rfl ?_
              refine b_ri rfl rfl ?_
              show ex_q (dt_fg L ρ) rc (d + 6, (159, 84, [some (eR a0), some (eI (a1)), some (eI (0))], [eI (v14)]), f :: F, m16)
              exact b_ri rfl rfl (K g m16 (v14) I17.re I17 (F19.up rfl rfl) (by omega))
            · subst g13
              refine w_j (np := 85) (st' := []) rfl rfl rfl ?_
              refine w_t (np := 86) (l2 := [some (eR a0), some (eI (a1)), some (eI (1))]) (s2 := [eR a0]) rfl (s_an rfl (pos_g hI gA0 (by decide))) rfl ?_
              refine w_t (np := 87) (l2 := [some (eR a0), some (eI (a1)), some (eI (1))]) (s2 := [eR a0, eR a0]) rfl (s_an rfl (pos_g hI gA0 (by decide))) rfl ?_
              refine w_gf (np := 90) (v := eR v3) rfl rfl (hI.kd gA0 (by decide) (n := 14) rfl) (by rw [e4]; rfl) ?_
              refine w_t (np := 91) (l2 := [some (eR a0), some (eI (a1)), some (eI (1))]) (s2 := [eI (a1), eR v3, eR a0]) rfl rfl rfl ?_
              refine w_cw (np := 94) (as := [eI (a1)]) (l2 := [some (eR v3), some (eI (a1))]) (rest := [eR a0]) rfl rfl rfl (Nat.ble_eq.mp rfl) rfl rfl rfl (hI.kd b5 (by decide) (n := 8) rfl) rfl ?_
              refine s_20 (a1 := a1) hI b5 (by omega) ?_
              intro v14 b15
              show ex_q (dt_fg L ρ) rc (d + 6, (159, 94, [some (eR a0), some (eI (a1)), some (eI (1))], [eI (v14), eR a0]), f :: F, μ)
              refine w_cw (np := 97) (as := [eI (v14)]) (l2 := [some (eR a0), some (eI (v14))]) (rest := []) rfl rfl rfl (Nat.ble_eq.mp rfl) rfl rfl rfl (hI.kd gA0 (by decide) (n := 14) rfl) rfl ?_
              refine w_t (np := 1) (l2 := [some (eR a0), some (eI (v14))]) (s2 := [eR a0]) rfl (s_an rfl (pos_g hI gA0 (by decide))) rfl ?_
              refine w_t (np := 2) (l2 := [some (eR a0), some (eI (v14))]) (s2 := [eI (0), eR a0]) rfl rfl rfl ?_
              refine j_pf (np := 5) (w := 0) rfl rfl hI gA0 (by decide) (n := 14) rfl rfl (hO_i (lo := -2147483648) (hi := 2147483647) rfl (by decide)) ?_
              intro m16 I17 W18
              have F19 : Fr l_159 0 0 g μ m16 := F0.w W18 gA0 rfl
              refine w_t (np := 6) (l2 := [some (eR a0), some (eI (v14))]) (s2 := [eI (v14)]) rfl rfl rfl ?_
              refine b_ri rfl rfl ?_
              show ex_q (dt_fg L ρ) rc (d + 6, (159, 97, [some (eR a0), some (eI (a1)), some (eI (1))], [eI (v14)]), f :: F, m16)
              exact b_ri rfl rfl (K g m16 (v14) I17.re I17 (F19.up rfl rfl) (by omega))
            · subst g13
              refine w_j (np := 98) (st' := []) rfl rfl rfl ?_
              refine w_t (np := 99) (l2 := [some (eR a0), some (eI (a1)), some (eI (2))]) (s2 := [eR a0]) rfl (s_an rfl (pos_g hI gA0 (by decide))) rfl ?_
              refine w_t (np := 100) (l2 := [some (eR a0), some (eI (a1)), some (eI (2))]) (s2 := [eR a0, eR a0]) rfl (s_an rfl (pos_g hI gA0 (by decide))) rfl ?_
              refine w_gf (np := 103) (v := eR v3) rfl rfl (hI.kd gA0 (by decide) (n := 14) rfl) (by rw [e4]; rfl) ?_
              refine j_gi (np := 106) rfl rfl rfl hI b5 (by decide) (n := 8) rfl rfl (lo := 0) (hi := 5) rfl ?_
              intro v14 e15 b16
              refine b_ine (t1 := 113) (t2 := 109) rfl rfl rfl (ev_w_in (by omega) (by omega)) (fun g17 => ?_) (fun g17 => ?_)
              · have b18 : 1 ≤ v14 ∧ v14 ≤ 5 := by omega
                refine w_t (np := 114) (l2 := [some (eR a0), some (eI (a1)), some (eI (2))]) (s2 := [eR a0, eR a0]) rfl (s_an rfl (pos_g hI gA0 (by decide))) rfl ?_
                refine w_gf (np := 117) (v := eR v3) rfl rfl (hI.kd gA0 (by decide) (n := 14) rfl) (by rw [e4]; rfl) ?_
                refine w_t (np := 118) (l2 := [some (eR a0), some (eI (a1)), some (eI (2))]) (s2 := [eI (a1), eR v3, eR a0]) rfl rfl rfl ?_
                refine w_t (np := 119) (l2 := [some (eR a0), some (eI (a1)), some (eI (2))]) (s2 := [eI (1), eI (a1), eR v3, eR a0]) rfl rfl rfl ?_
                refine w_cw (np := 122) (as := [eI (a1), eI (1)]) (l2 := [some (eR v3), some (eI (a1)), some (eI (1))]) (rest := [eR a0]) rfl rfl rfl (Nat.ble_eq.mp rfl) rfl rfl rfl (hI.kd b5 (by decide) (n := 8) rfl) rfl ?_
                refine s_38 (a1 := a1) (a2 := 1) hI b5 (by omega) (by decide) ?_
                intro v18 b19
                show ex_q (dt_fg L ρ) rc (d + 6, (159, 122, [some (eR a0), some (eI (a1)), some (eI (2))], [eI (v18), eR a0]), f :: F, μ)
                refine w_cw (np := 125) (as := [eI (v18)]) (l2 := [some (eR a0), some (eI (v18))]) (rest := []) rfl rfl rfl (Nat.ble_eq.mp rfl) rfl rfl rfl (hI.kd gA0 (by decide) (n := 14) rfl) rfl ?_
                refine w_t (np := 1) (l2 := [some (eR a0), some (eI (v18))]) (s2 := [eR a0]) rfl (s_an rfl (pos_g hI gA0 (by decide))) rfl ?_
                refine w_t (np := 2) (l2 := [some (eR a0), some (eI (v18))]) (s2 := [eI (0), eR a0]) rfl rfl rfl ?_
                refine j_pf (np := 5) (w := 0) rfl rfl hI gA0 (by decide) (n := 14) rfl rfl (hO_i (lo := -2147483648) (hi := 2147483647) rfl (by decide)) ?_
                intro m20 I21 W22
                have F23 : Fr l_159 0 0 g μ m20 := F0.w W22 gA0 rfl
                refine w_t (np := 6) (l2 := [some (eR a0), some (eI (v18))]) (s2 := [eI (v18)]) rfl rfl rfl ?_
                refine b_ri rfl rfl ?_
                show ex_q (dt_fg L ρ) rc (d + 6, (159, 125, [some (eR a0), some (eI (a1)), some (eI (2))], [eI (v18)]), f :: F, m20)
                exact b_ri rfl rfl (K g m20 (v18) I21.re I21 (F23.up rfl rfl) (by omega))
              · have b18 : 0 ≤ v14 ∧ v14 ≤ 0 := by omega
                refine w_t (np := 110) (l2 := [some (eR a0), some (eI (a1)), some (eI (2))]) (s2 := [eI (-1), eR a0]) rfl rfl rfl ?_
                refine w_go (t1 := 122) rfl rfl ?_
                refine w_cw (np := 125) (as := [eI (-1)]) (l2 := [some (eR a0), some (eI (-1))]) (rest := []) rfl rfl rfl (Nat.ble_eq.mp rfl) rfl rfl rfl (hI.kd gA0 (by decide) (n := 14) rfl) rfl ?_
                refine w_t (np := 1) (l2 := [some (eR a0), some (eI (-1))]) (s2 := [eR a0]) rfl (s_an rfl (pos_g hI gA0 (by decide))) rfl ?_
                refine w_t (np := 2) (l2 := [some (eR a0), some (eI (-1))]) (s2 := [eI (0), eR a0]) rfl rfl rfl ?_
                refine j_pf (np := 5) (w := 0) rfl rfl hI gA0 (by decide) (n := 14) rfl rfl (hO_i (lo := -2147483648) (hi := 2147483647) rfl (by decide)) ?_
                intro m18 I19 W20
                have F21 : Fr l_159 0 0 g μ m18 := F0.w W20 gA0 rfl
                refine w_t (np := 6) (l2 := [some (eR a0), some (eI (-1))]) (s2 := [eI (-1)]) rfl rfl rfl ?_
                refine b_ri rfl rfl ?_
                show ex_q (dt_fg L ρ) rc (d + 6, (159, 125, [some (eR a0), some (eI (a1)), some (eI (2))], [eI (-1)]), f :: F, m18)
                exact b_ri rfl rfl (K g m18 (-1) I19.re I19 (F21.up rfl rfl) (by decide))
            · subst g13
              refine w_j (np := 126) (st' := []) rfl rfl rfl ?_
              refine w_t (np := 127) (l2 := [some (eR a0), some (eI (a1)), some (eI (3))]) (s2 := [eR a0]) rfl (s_an rfl (pos_g hI gA0 (by decide))) rfl ?_
              refine w_t (np := 128) (l2 := [some (eR a0), some (eI (a1)), some (eI (3))]) (s2 := [eR a0, eR a0]) rfl (s_an rfl (pos_g hI gA0 (by decide))) rfl ?_
              refine w_gf (np := 131) (v := eR v3) rfl rfl (hI.kd gA0 (by decide) (n := 14) rfl) (by rw [e4]; rfl) ?_
              refine j_gi (np := 134) rfl rfl rfl hI b5 (by decide) (n := 8) rfl rfl (lo := 0) (hi := 5) rfl ?_
              intro v14 e15 b16
              refine b_ine (t1 := 141) (t2 := 137) rfl rfl rfl (ev_w_in (by omega) (by omega)) (fun g17 => ?_) (fun g17 => ?_)
              · have b18 : 1 ≤ v14 ∧ v14 ≤ 5 := by omega
                refine w_t (np := 142) (l2 := [some (eR a0), some (eI (a1)), some (eI (3))]) (s2 := [eR a0, eR a0]) rfl (s_an rfl (pos_g hI gA0 (by decide))) rfl ?_
                refine w_gf (np := 145) (v := eR v3) rfl rfl (hI.kd gA0 (by decide) (n := 14) rfl) (by rw [e4]; rfl) ?_
                refine w_t (np := 146) (l2 := [some (eR a0), some (eI (a1)), some (eI (3))]) (s2 := [eI (a1), eR v3, eR a0]) rfl rfl rfl ?_
                refine w_cw (np := 149) (as := [eI (a1)]) (l2 := [some (eR v3), some (eI (a1))]) (rest := [eR a0]) rfl rfl rfl (Nat.ble_eq.mp rfl) rfl rfl rfl (hI.kd b5 (by decide) (n := 8) rfl) rfl ?_
                refine s_20 (a1 := a1) hI b5 (by omega) ?_
                intro v18 b19
                show ex_q (dt_fg L ρ) rc (d + 6, (159, 149, [some (eR a0), some (eI (a1)), some (eI (3))], [eI (v18), eR a0]), f :: F, μ)
                refine w_t (np := 150) (l2 := [some (eR a0), some (eI (a1)), some (eI (3))]) (s2 := [eI (3), eI (v18), eR a0]) rfl rfl rfl ?_
                obtain ⟨v20, e21, b22⟩ := h_irem (a := v18) (k := 3) (by decide) (by decide) b19
                have b23 : -2 ≤ v20 ∧ v20 ≤ 2 := by omega
                refine w_t (np := 151) (l2 := [some (eR a0), some (eI (a1)), some (eI (3))]) (s2 := [eI (v20), eR a0]) rfl (e21 _ _) rfl ?_
                refine w_cw (np := 154) (as := [eI (v20)]) (l2 := [some (eR a0), some (eI (v20))]) (rest := []) rfl rfl rfl (Nat.ble_eq.mp rfl) rfl rfl rfl (hI.kd gA0 (by decide) (n := 14) rfl) rfl ?_
                refine w_t (np := 1) (l2 := [some (eR a0), some (eI (v20))]) (s2 := [eR a0]) rfl (s_an rfl (pos_g hI gA0 (by decide))) rfl ?_
                refine w_t (np := 2) (l2 := [some (eR a0), some (eI (v20))]) (s2 := [eI (0), eR a0]) rfl rfl rfl ?_
                refine j_pf (np := 5) (w := 0) rfl rfl hI gA0 (by decide) (n := 14) rfl rfl (hO_i (lo := -2147483648) (hi := 2147483647) rfl (by decide)) ?_
                intro m24 I25 W26
                have F27 : Fr l_159 0 0 g μ m24 := F0.w W26 gA0 rfl
                refine w_t (np := 6) (l2 := [some (eR a0), some (eI (v20))]) (s2 := [eI (v20)]) rfl rfl rfl ?_
                refine b_ri rfl rfl ?_
                show ex_q (dt_fg L ρ) rc (d + 6, (159, 154, [some (eR a0), some (eI (a1)), some (eI (3))], [eI (v20)]), f :: F, m24)
                exact b_ri rfl rfl (K g m24 (v20) I25.re I25 (F27.up rfl rfl) (by omega))
              · have b18 : 0 ≤ v14 ∧ v14 ≤ 0 := by omega
                refine w_t (np := 138) (l2 := [some (eR a0), some (eI (a1)), some (eI (3))]) (s2 := [eI (-1), eR a0]) rfl rfl rfl ?_
                refine w_go (t1 := 151) rfl rfl ?_
                refine w_cw (np := 154) (as := [eI (-1)]) (l2 := [some (eR a0), some (eI (-1))]) (rest := []) rfl rfl rfl (Nat.ble_eq.mp rfl) rfl rfl rfl (hI.kd gA0 (by decide) (n := 14) rfl) rfl ?_
                refine w_t (np := 1) (l2 := [some (eR a0), some (eI (-1))]) (s2 := [eR a0]) rfl (s_an rfl (pos_g hI gA0 (by decide))) rfl ?_
                refine w_t (np := 2) (l2 := [some (eR a0), some (eI (-1))]) (s2 := [eI (0), eR a0]) rfl rfl rfl ?_
                refine j_pf (np := 5) (w := 0) rfl rfl hI gA0 (by decide) (n := 14) rfl rfl (hO_i (lo := -2147483648) (hi := 2147483647) rfl (by decide)) ?_
                intro m18 I19 W20
                have F21 : Fr l_159 0 0 g μ m18 := F0.w W20 gA0 rfl
                refine w_t (np := 6) (l2 := [some (eR a0), some (eI (-1))]) (s2 := [eI (-1)]) rfl rfl rfl ?_
                refine b_ri rfl rfl ?_
                show ex_q (dt_fg L ρ) rc (d + 6, (159, 154, [some (eR a0), some (eI (a1)), some (eI (3))], [eI (-1)]), f :: F, m18)
                exact b_ri rfl rfl (K g m18 (-1) I19.re I19 (F21.up rfl rfl) (by decide))
            · subst g13
              refine w_j (np := 155) (st' := []) rfl rfl rfl ?_
              refine w_t (np := 156) (l2 := [some (eR a0), some (eI (a1)), some (eI (4))]) (s2 := [eR a0]) rfl (s_an rfl (pos_g hI gA0 (by decide))) rfl ?_
              refine w_t (np := 157) (l2 := [some (eR a0), some (eI (a1)), some (eI (4))]) (s2 := [eR a0, eR a0]) rfl (s_an rfl (pos_g hI gA0 (by decide))) rfl ?_
              refine w_cw (np := 160) (as := []) (l2 := [some (eR a0)]) (rest := [eR a0]) rfl rfl rfl (Nat.ble_eq.mp rfl) rfl rfl rfl (hI.kd gA0 (by decide) (n := 14) rfl) rfl ?_
              refine s_209 hI gA0 ?_
              intro g14 m15 v19 E16 I17 F18 b20
              have F21 : Fr l_159 7 8159 g μ m15 := F0.t F18 rfl
              show ex_q (dt_fg L ρ) rc (d + 6, (159, 160, [some (eR a0), some (eI (a1)), some (eI (4))], [eR v19, eR a0]), f :: F, m15)
              refine w_t (np := 161) (l2 := [some (eR a0), some (eI (a1)), some (eI (4))]) (s2 := [eI (a1), eR v19, eR a0]) rfl rfl rfl ?_
              refine w_cw (np := 164) (as := [eI (a1)]) (l2 := [some (eR v19), some (eI (a1)), none, none]) (rest := [eR a0]) rfl rfl rfl (Nat.ble_eq.mp rfl) rfl rfl rfl (I17.kd b20 (by decide) (n := 15) rfl) rfl ?_
              refine s_117 (a1 := a1) I17 b20 (by omega) ?_
              intro v22 b23
              show ex_q (dt_fg L ρ) rc (d + 6, (159, 164, [some (eR a0), some (eI (a1)), some (eI (4))], [eI (v22), eR a0]), f :: F, m15)
              refine w_cw (np := 167) (as := [eI (v22)]) (l2 := [some (eR a0), some (eI (v22))]) (rest := []) rfl rfl rfl (Nat.ble_eq.mp rfl) rfl rfl rfl (I17.kd (E16.g gA0 (by decide)) (by decide) (n := 14) rfl) rfl ?_
              refine w_t (np := 1) (l2 := [some (eR a0), some (eI (v22))]) (s2 := [eR a0]) rfl (s_an rfl (pos_g I17 (E16.g gA0 (by decide)) (by decide))) rfl ?_
              refine w_t (np := 2) (l2 := [some (eR a0), some (eI (v22))]) (s2 := [eI (0), eR a0]) rfl rfl rfl ?_
              refine j_pf (np := 5) (w := 0) rfl rfl I17 (E16.g gA0 (by decide)) (by decide) (n := 14) rfl rfl (hO_i (lo := -2147483648) (hi := 2147483647) rfl (by decide)) ?_
              intro m24 I25 W26
              have F27 : Fr l_159 7 8159 g μ m24 := F21.w3 E16 W26 (E16.g gA0 (by decide)) rfl
              refine w_t (np := 6) (l2 := [some (eR a0), some (eI (v22))]) (s2 := [eI (v22)]) rfl rfl rfl ?_
              refine b_ri rfl rfl ?_
              show ex_q (dt_fg L ρ) rc (d + 6, (159, 167, [some (eR a0), some (eI (a1)), some (eI (4))], [eI (v22)]), f :: F, m24)
              exact b_ri rfl rfl (K g14 m24 (v22) E16 I25 F27 (by omega))
            · subst g13
              refine w_j (np := 168) (st' := []) rfl rfl rfl ?_
              refine w_t (np := 169) (l2 := [some (eR a0), some (eI (a1)), some (eI (5))]) (s2 := [eR a0]) rfl (s_an rfl (pos_g hI gA0 (by decide))) rfl ?_
              refine w_t (np := 170) (l2 := [some (eR a0), some (eI (a1)), some (eI (5))]) (s2 := [eR a0, eR a0]) rfl (s_an rfl (pos_g hI gA0 (by decide))) rfl ?_
              refine w_cw (np := 173) (as := []) (l2 := [some (eR a0)]) (rest := [eR a0]) rfl rfl rfl (Nat.ble_eq.mp rfl) rfl rfl rfl (hI.kd gA0 (by decide) (n := 14) rfl) rfl ?_
              refine s_209 hI gA0 ?_
              intro g14 m15 v19 E16 I17 F18 b20
              have F21 : Fr l_159 7 8159 g μ m15 := F0.t F18 rfl
              show ex_q (dt_fg L ρ) rc (d + 6, (159, 173, [some (eR a0), some (eI (a1)), some (eI (5))], [eR v19, eR a0]), f :: F, m15)
              refine w_t (np := 174) (l2 := [some (eR a0), some (eI (a1)), some (eI (5))]) (s2 := [eI (a1), eR v19, eR a0]) rfl rfl rfl ?_
              refine w_t (np := 175) (l2 := [some (eR a0), some (eI (a1)), some (eI (5))]) (s2 := [eI (0), eI (a1), eR v19, eR a0]) rfl rfl rfl ?_
              refine w_cw (np := 178) (as := [eI (a1), eI (0)]) (l2 := [some (eR v19), some (eI (a1)), some (eI (0)), none]) (rest := [eR a0]) rfl rfl rfl (Nat.ble_eq.mp rfl) rfl rfl rfl (I17.kd b20 (by decide) (n := 15) rfl) rfl ?_
              refine s_116 (a1 := a1) (a2 := 0) I17 b20 (by omega) (by decide) ?_
              intro v22 b23
              show ex_q (dt_fg L ρ) rc (d + 6, (159, 178, [some (eR a0), some (eI (a1)), some (eI (5))], [eI (v22), eR a0]), f :: F, m15)
              refine w_cw (np := 181) (as := [eI (v22)]) (l2 := [some (eR a0), some (eI (v22))]) (rest := []) rfl rfl rfl (Nat.ble_eq.mp rfl) rfl rfl rfl (I17.kd (E16.g gA0 (by decide)) (by decide) (n := 14) rfl) rfl ?_
              refine w_t (np := 1) (l2 := [some (eR a0), some (eI (v22))]) (s2 := [eR a0]) rfl (s_an rfl (pos_g I17 (E16.g gA0 (by decide)) (by decide))) rfl ?_
              refine w_t (np := 2) (l2 := [some (eR a0), some (eI (v22))]) (s2 := [eI (0), eR a0]) rfl rfl rfl ?_
              refine j_pf (np := 5) (w := 0) rfl rfl I17 (E16.g gA0 (by decide)) (by decide) (n := 14) rfl rfl (hO_i (lo := -2147483648) (hi := 2147483647) rfl (by decide)) ?_
              intro m24 I25 W26
              have F27 : Fr l_159 7 8159 g μ m24 := F21.w3 E16 W26 (E16.g gA0 (by decide)) rfl
              refine w_t (np := 6) (l2 := [some (eR a0), some (eI (v22))]) (s2 := [eI (v22)]) rfl rfl rfl ?_
              refine b_ri rfl rfl ?_
              show ex_q (dt_fg L ρ) rc (d + 6, (159, 181, [some (eR a0), some (eI (a1)), some (eI (5))], [eI (v22)]), f :: F, m24)
              exact b_ri rfl rfl (K g14 m24 (v22) E16 I25 F27 (by omega))
            · subst g13
              refine w_j (np := 182) (st' := []) rfl rfl rfl ?_
              refine w_t (np := 183) (l2 := [some (eR a0), some (eI (a1)), some (eI (6))]) (s2 := [eR a0]) rfl (s_an rfl (pos_g hI gA0 (by decide))) rfl ?_
              refine w_t (np := 184) (l2 := [some (eR a0), some (eI (a1)), some (eI (6))]) (s2 := [eR a0, eR a0]) rfl (s_an rfl (pos_g hI gA0 (by decide))) rfl ?_
              refine w_cw (np := 187) (as := []) (l2 := [some (eR a0)]) (rest := [eR a0]) rfl rfl rfl (Nat.ble_eq.mp rfl) rfl rfl rfl (hI.kd gA0 (by decide) (n := 14) rfl) rfl ?_
              refine s_209 hI gA0 ?_
              intro g14 m15 v19 E16 I17 F18 b20
              have F21 : Fr l_159 7 8159 g μ m15 := F0.t F18 rfl
              show ex_q (dt_fg L ρ) rc (d + 6, (159, 187, [some (eR a0), some (eI (a1)), some (eI (6))], [eR v19, eR a0]), f :: F, m15)
              refine w_t (np := 188) (l2 := [some (eR a0), some (eI (a1)), some (eI (6))]) (s2 := [eI (a1), eR v19, eR a0]) rfl rfl rfl ?_
              refine w_t (np := 189) (l2 := [some (eR a0), some (eI (a1)), some (eI (6))]) (s2 := [eI (1), eI (a1), eR v19, eR a0]) rfl rfl rfl ?_
              refine w_cw (np := 192) (as := [eI (a1), eI (1)]) (l2 := [some (eR v19), some (eI (a1)), some (eI (1)), none]) (rest := [eR a0]) rfl rfl rfl (Nat.ble_eq.mp rfl) rfl rfl rfl (I17.kd b20 (by decide) (n := 15) rfl) rfl ?_
              refine s_116 (a1 := a1) (a2 := 1) I17 b20 (by omega) (by decide) ?_
              intro v22 b23
              show ex_q (dt_fg L ρ) rc (d + 6, (159, 192, [some (eR a0), some (eI (a1)), some (eI (6))], [eI (v22), eR a0]), f :: F, m15)
              refine w_cw (np := 195) (as := [eI (v22)]) (l2 := [some (eR a0), some (eI (v22))]) (rest := []) rfl rfl rfl (Nat.ble_eq.mp rfl) rfl rfl rfl (I17.kd (E16.g gA0 (by decide)) (by decide) (n := 14) rfl) rfl ?_
              refine w_t (np := 1) (l2 := [some (eR a0), some (eI (v22))]) (s2 := [eR a0]) rfl (s_an rfl (pos_g I17 (E16.g gA0 (by decide)) (by decide))) rfl ?_
              refine w_t (np := 2) (l2 := [some (eR a0), some (eI (v22))]) (s2 := [eI (0), eR a0]) rfl rfl rfl ?_
              refine j_pf (np := 5) (w := 0) rfl rfl I17 (E16.g gA0 (by decide)) (by decide) (n := 14) rfl rfl (hO_i (lo := -2147483648) (hi := 2147483647) rfl (by decide)) ?_
              intro m24 I25 W26
              have F27 : Fr l_159 7 8159 g μ m24 := F21.w3 E16 W26 (E16.g gA0 (by decide)) rfl
              refine w_t (np := 6) (l2 := [some (eR a0), some (eI (v22))]) (s2 := [eI (v22)]) rfl rfl rfl ?_
              refine b_ri rfl rfl ?_
              show ex_q (dt_fg L ρ) rc (d + 6, (159, 195, [some (eR a0), some (eI (a1)), some (eI (6))], [eI (v22)]), f :: F, m24)
              exact b_ri rfl rfl (K g14 m24 (v22) E16 I25 F27 (by omega))
          · refine w_t (np := 13) (l2 := [some (eR v3), some (eI (a1))]) (s2 := [eI (1)]) rfl rfl rfl ?_
            refine w_go (t1 := 17) rfl rfl ?_
            refine b_rz rfl rfl (Or.inr rfl) ?_
            show ex_q (dt_fg L ρ) rc (d + 6, (159, 24, [some (eR a0), some (eI (a1)), some (eI (a2))], [eI (1)]), f :: F, μ)
            refine b_ieq (t1 := 33) (t2 := 27) rfl rfl rfl rfl (fun g12 => absurd g12 (by decide)) (fun g12 => ?_)
            refine w_t (np := 28) (l2 := [some (eR a0), some (eI (a1)), some (eI (a2))]) (s2 := [eR a0]) rfl (s_an rfl (pos_g hI gA0 (by decide))) rfl ?_
            refine w_t (np := 29) (l2 := [some (eR a0), some (eI (a1)), some (eI (a2))]) (s2 := [eI (2), eR a0]) rfl rfl rfl ?_
            refine w_cw (np := 32) (as := [eI (2)]) (l2 := [some (eR a0), some (eI (2))]) (rest := []) rfl rfl rfl (Nat.ble_eq.mp rfl) rfl rfl rfl (hI.kd gA0 (by decide) (n := 14) rfl) rfl ?_
            refine w_t (np := 1) (l2 := [some (eR a0), some (eI (2))]) (s2 := [eR a0]) rfl (s_an rfl (pos_g hI gA0 (by decide))) rfl ?_
            refine w_t (np := 2) (l2 := [some (eR a0), some (eI (2))]) (s2 := [eI (2), eR a0]) rfl rfl rfl ?_
            refine j_pf (np := 5) (w := 2) rfl rfl hI gA0 (by decide) (n := 14) rfl rfl (hO_i (lo := -2147483648) (hi := 2147483647) rfl (by decide)) ?_
            intro m13 I14 W15
            have F16 : Fr l_159 0 0 g μ m13 := F0.w W15 gA0 rfl
            refine w_t (np := 6) (l2 := [some (eR a0), some (eI (2))]) (s2 := [eI (-1)]) rfl rfl rfl ?_
            refine b_ri rfl rfl ?_
            show ex_q (dt_fg L ρ) rc (d + 6, (159, 32, [some (eR a0), some (eI (a1)), some (eI (a2))], [eI (-1)]), f :: F, m13)
            exact b_ri rfl rfl (K g m13 (-1) I14.re I14 (F16.up rfl rfl) (by decide))
      · refine w_t (np := 21) (l2 := [some (eR a0), some (eI (a1)), some (eI (a2))]) (s2 := [eI (a1), eR v3]) rfl rfl rfl ?_
        refine w_cw (np := 24) (as := [eI (a1)]) (l2 := [some (eR v3), some (eI (a1))]) (rest := []) rfl rfl rfl (Nat.ble_eq.mp rfl) rfl rfl rfl (hI.kd b5 (by decide) (n := 8) rfl) rfl ?_
        refine w_t (np := 1) (l2 := [some (eR v3), some (eI (a1))]) (s2 := [eI (a1)]) rfl rfl rfl ?_
        refine b_ilt (t1 := 12) (t2 := 4) rfl rfl rfl (ev_w_in (by omega) (by omega)) (fun g7 => ?_) (fun g7 => ?_)
        · have b8 : -2147483648 ≤ a1 ∧ a1 ≤ -1 := by omega
          refine w_t (np := 13) (l2 := [some (eR v3), some (eI (a1))]) (s2 := [eI (1)]) rfl rfl rfl ?_
          refine w_go (t1 := 17) rfl rfl ?_
          refine b_rz rfl rfl (Or.inr rfl) ?_
          show ex_q (dt_fg L ρ) rc (d + 6, (159, 24, [some (eR a0), some (eI (a1)), some (eI (a2))], [eI (1)]), f :: F, μ)
          refine b_ieq (t1 := 33) (t2 := 27) rfl rfl rfl rfl (fun g8 => absurd g8 (by decide)) (fun g8 => ?_)
          refine w_t (np := 28) (l2 := [some (eR a0), some (eI (a1)), some (eI (a2))]) (s2 := [eR a0]) rfl (s_an rfl (pos_g hI gA0 (by decide))) rfl ?_
          refine w_t (np := 29) (l2 := [some (eR a0), some (eI (a1)), some (eI (a2))]) (s2 := [eI (2), eR a0]) rfl rfl rfl ?_
          refine w_cw (np := 32) (as := [eI (2)]) (l2 := [some (eR a0), some (eI (2))]) (rest := []) rfl rfl rfl (Nat.ble_eq.mp rfl) rfl rfl rfl (hI.kd gA0 (by decide) (n := 14) rfl) rfl ?_
          refine w_t (np := 1) (l2 := [some (eR a0), some (eI (2))]) (s2 := [eR a0]) rfl (s_an rfl (pos_g hI gA0 (by decide))) rfl ?_
          refine w_t (np := 2) (l2 := [some (eR a0), some (eI (2))]) (s2 := [eI (2), eR a0]) rfl rfl rfl ?_
          refine j_pf (np := 5) (w := 2) rfl rfl hI gA0 (by decide) (n := 14) rfl rfl (hO_i (lo := -2147483648) (hi := 2147483647) rfl (by decide)) ?_
          intro m9 I10 W11
          have F12 : Fr l_159 0 0 g μ m9 := F0.w W11 gA0 rfl
          refine w_t (np := 6) (l2 := [some (eR a0), some (eI (2))]) (s2 := [eI (-1)]) rfl rfl rfl ?_
          refine b_ri rfl rfl ?_
          show ex_q (dt_fg L ρ) rc (d + 6, (159, 32, [some (eR a0), some (eI (a1)), some (eI (a2))], [eI (-1)]), f :: F, m9)
          exact b_ri rfl rfl (K g m9 (-1) I10.re I10 (F12.up rfl rfl) (by decide))
        · have b8 : 0 ≤ a1 ∧ a1 ≤ 2147483647 := by omega
          refine w_t (np := 5) (l2 := [some (eR v3), some (eI (a1))]) (s2 := [eI (a1)]) rfl rfl rfl ?_
          refine w_t (np := 6) (l2 := [some (eR v3), some (eI (a1))]) (s2 := [eR v3, eI (a1)]) rfl (s_an rfl (pos_g hI b5 (by decide))) rfl ?_
          refine j_gi (np := 9) rfl rfl rfl hI b5 (by decide) (n := 8) rfl rfl (lo := 0) (hi := 890) rfl ?_
          intro v8 e9 b10
          refine b_clt (t1 := 16) (t2 := 12) rfl rfl rfl (ev_w_in (by omega) (by omega)) (ev_w_in (by omega) (by omega)) (fun g11 => ?_) (fun g11 => ?_)
          · have b12 : 0 ≤ a1 ∧ a1 ≤ 889 := by omega
            have b13 : 1 ≤ v8 ∧ v8 ≤ 890 := by omega
            refine w_t (np := 17) (l2 := [some (eR v3), some (eI (a1))]) (s2 := [eI (0)]) rfl rfl rfl ?_
            refine b_rz rfl rfl (Or.inl rfl) ?_
            show ex_q (dt_fg L ρ) rc (d + 6, (159, 24, [some (eR a0), some (eI (a1)), some (eI (a2))], [eI (0)]), f :: F, μ)
            refine b_ieq (t1 := 33) (t2 := 27) rfl rfl rfl rfl (fun g12 => ?_) (fun g12 => absurd g12 (by decide))
            refine w_t (np := 34) (l2 := [some (eR a0), some (eI (a1)), some (eI (a2))]) (s2 := [eI (a2)]) rfl rfl rfl ?_
            rcases (show a2 = 0 ∨ a2 = 1 ∨ a2 = 2 ∨ a2 = 3 ∨ a2 = 4 ∨ a2 = 5 ∨ a2 = 6 by omega) with g13 | g13 | g13 | g13 | g13 | g13 | g13
            · subst g13
              refine w_j (np := 72) (st' := []) rfl rfl rfl ?_
              refine w_t (np := 73) (l2 := [some (eR a0), some (eI (a1)), some (eI (0))]) (s2 := [eR a0]) rfl (s_an rfl (pos_g hI gA0 (by decide))) rfl ?_
              refine w_t (np := 74) (l2 := [some (eR a0), some (eI (a1)), some (eI (0))]) (s2 := [eR a0, eR a0]) rfl (s_an rfl (pos_g hI gA0 (by decide))) rfl ?_
              refine w_gf (np := 77) (v := eR v3) rfl rfl (hI.kd gA0 (by decide) (n := 14) rfl) (by rw [e4]; rfl) ?_
              refine w_t (np := 78) (l2 := [some (eR a0), some (eI (a1)), some (eI (0))]) (s2 := [eI (a1), eR v3, eR a0]) rfl rfl rfl ?_
              refine w_cw (np := 81) (as := [eI (a1)]) (l2 := [some (eR v3), some (eI (a1))]) (rest := [eR a0]) rfl rfl rfl (Nat.ble_eq.mp rfl) rfl rfl rfl (hI.kd b5 (by decide) (n := 8) rfl) rfl ?_
              refine s_19_2 (a1 := a1) hI b5 (by omega) ?_
              intro v14 b15
              show ex_q (dt_fg L ρ) rc (d + 6, (159, 81, [some (eR a0), some (eI (a1)), some (eI (0))], [eI (v14), eR a0]), f :: F, μ)
              refine w_cw (np := 84) (as := [eI (v14)]) (l2 := [some (eR a0), some (eI (v14))]) (rest := []) rfl rfl rfl (Nat.ble_eq.mp rfl) rfl rfl rfl (hI.kd gA0 (by decide) (n := 14) rfl) rfl ?_
              refine w_t (np := 1) (l2 := [some (eR a0), some (eI (v14))]) (s2 := [eR a0]) rfl (s_an rfl (pos_g hI gA0 (by decide))) rfl ?_
              refine w_t (np := 2) (l2 := [some (eR a0), some (eI (v14))]) (s2 := [eI (0), eR a0]) rfl rfl rfl ?_
              refine j_pf (np := 5) (w := 0) rfl rfl hI gA0 (by decide) (n := 14) rfl rfl (hO_i (lo := -2147483648) (hi := 2147483647) rfl (by decide)) ?_
              intro m16 I17 W18
              have F19 : Fr l_159 0 0 g μ m16 := F0.w W18 gA0 rfl
              refine w_t (np := 6) (l2 := [some (eR a0), some (eI (v14))]) (s2 := [eI (v14)]) rfl rfl rfl ?_
              refine b_ri rfl rfl ?_
              show ex_q (dt_fg L ρ) rc (d + 6, (159, 84, [some (eR a0), some (eI (a1)), some (eI (0))], [eI (v14)]), f :: F, m16)
              exact b_ri rfl rfl (K g m16 (v14) I17.re I17 (F19.up rfl rfl) (by omega))
            · subst g13
              refine w_j (np := 85) (st' := []) rfl rfl rfl ?_
              refine w_t (np := 86) (l2 := [some (eR a0), some (eI (a1)), some (eI (1))]) (s2 := [eR a0]) rfl (s_an rfl (pos_g hI gA0 (by decide))) rfl ?_
              refine w_t (np := 87) (l2 := [some (eR a0), some (eI (a1)), some (eI (1))]) (s2 := [eR a0, eR a0]) rfl (s_an rfl (pos_g hI gA0 (by decide))) rfl ?_
              refine w_gf (np := 90) (v := eR v3) rfl rfl (hI.kd gA0 (by decide) (n := 14) rfl) (by rw [e4]; rfl) ?_
              refine w_t (np := 91) (l2 := [some (eR a0), some (eI (a1)), some (eI (1))]) (s2 := [eI (a1), eR v3, eR a0]) rfl rfl rfl ?_
              refine w_cw (np := 94) (as := [eI (a1)]) (l2 := [some (eR v3), some (eI (a1))]) (rest := [eR a0]) rfl rfl rfl (Nat.ble_eq.mp rfl) rfl rfl rfl (hI.kd b5 (by decide) (n := 8) rfl) rfl ?_
              refine s_20_2 (a1 := a1) hI b5 (by omega) ?_
              intro v14 b15
              show ex_q (dt_fg L ρ) rc (d + 6, (159, 94, [some (eR a0), some (eI (a1)), some (eI (1))], [eI (v14), eR a0]), f :: F, μ)
              refine w_cw (np := 97) (as := [eI (v14)]) (l2 := [some (eR a0), some (eI (v14))]) (rest := []) rfl rfl rfl (Nat.ble_eq.mp rfl) rfl rfl rfl (hI.kd gA0 (by decide) (n := 14) rfl) rfl ?_
              refine w_t (np := 1) (l2 := [some (eR a0), some (eI (v14))]) (s2 := [eR a0]) rfl (s_an rfl (pos_g hI gA0 (by decide))) rfl ?_
              refine w_t (np := 2) (l2 := [some (eR a0), some (eI (v14))]) (s2 := [eI (0), eR a0]) rfl rfl rfl ?_
              refine j_pf (np := 5) (w := 0) rfl rfl hI gA0 (by decide) (n := 14) rfl rfl (hO_i (lo := -2147483648) (hi := 2147483647) rfl (by decide)) ?_
              intro m16 I17 W18
              have F19 : Fr l_159 0 0 g μ m16 := F0.w W18 gA0 rfl
              refine w_t (np := 6) (l2 := [some (eR a0), some (eI (v14))]) (s2 := [eI (v14)]) rfl rfl rfl ?_
              refine b_ri rfl rfl ?_
              show ex_q (dt_fg L ρ) rc (d + 6, (159, 97, [some (eR a0), some (eI (a1)), some (eI (1))], [eI (v14)]), f :: F, m16)
              exact b_ri rfl rfl (K g m16 (v14) I17.re I17 (F19.up rfl rfl) (by omega))
            · subst g13
              refine w_j (np := 98) (st' := []) rfl rfl rfl ?_
              refine w_t (np := 99) (l2 := [some (eR a0), some (eI (a1)), some (eI (2))]) (s2 := [eR a0]) rfl (s_an rfl (pos_g hI gA0 (by decide))) rfl ?_
              refine w_t (np := 100) (l2 := [some (eR a0), some (eI (a1)), some (eI (2))]) (s2 := [eR a0, eR a0]) rfl (s_an rfl (pos_g hI gA0 (by decide))) rfl ?_
              refine w_gf (np := 103) (v := eR v3) rfl rfl (hI.kd gA0 (by decide) (n := 14) rfl) (by rw [e4]; rfl) ?_
              refine j_gi (np := 106) rfl rfl rfl hI b5 (by decide) (n := 8) rfl rfl (lo := 0) (hi := 5) rfl ?_
              intro v14 e15 b16
              refine b_ine (t1 := 113) (t2 := 109) rfl rfl rfl (ev_w_in (by omega) (by omega)) (fun g17 => ?_) (fun g17 => ?_)
              · have b18 : 1 ≤ v14 ∧ v14 ≤ 5 := by omega
                refine w_t (np := 114) (l2 := [some (eR a0), some (eI (a1)), some (eI (2))]) (s2 := [eR a0, eR a0]) rfl (s_an rfl (pos_g hI gA0 (by decide))) rfl ?_
                refine w_gf (np := 117) (v := eR v3) rfl rfl (hI.kd gA0 (by decide) (n := 14) rfl) (by rw [e4]; rfl) ?_
                refine w_t (np := 118) (l2 := [some (eR a0), some (eI (a1)), some (eI (2))]) (s2 := [eI (a1), eR v3, eR a0]) rfl rfl rfl ?_
                refine w_t (np := 119) (l2 := [some (eR a0), some (eI (a1)), some (eI (2))]) (s2 := [eI (1), eI (a1), eR v3, eR a0]) rfl rfl rfl ?_
                refine w_cw (np := 122) (as := [eI (a1), eI (1)]) (l2 := [some (eR v3), some (eI (a1)), some (eI (1))]) (rest := [eR a0]) rfl rfl rfl (Nat.ble_eq.mp rfl) rfl rfl rfl (hI.kd b5 (by decide) (n := 8) rfl) rfl ?_
                refine s_38_2 (a1 := a1) (a2 := 1) hI b5 (by omega) (by decide) ?_
                intro v18 b19
                show ex_q (dt_fg L ρ) rc (d + 6, (159, 122, [some (eR a0), some (eI (a1)), some (eI (2))], [eI (v18), eR a0]), f :: F, μ)
                refine w_cw (np := 125) (as := [eI (v18)]) (l2 := [some (eR a0), some (eI (v18))]) (rest := []) rfl rfl rfl (Nat.ble_eq.mp rfl) rfl rfl rfl (hI.kd gA0 (by decide) (n := 14) rfl) rfl ?_
                refine w_t (np := 1) (l2 := [some (eR a0), some (eI (v18))]) (s2 := [eR a0]) rfl (s_an rfl (pos_g hI gA0 (by decide))) rfl ?_
                refine w_t (np := 2) (l2 := [some (eR a0), some (eI (v18))]) (s2 := [eI (0), eR a0]) rfl rfl rfl ?_
                refine j_pf (np := 5) (w := 0) rfl rfl hI gA0 (by decide) (n := 14) rfl rfl (hO_i (lo := -2147483648) (hi := 2147483647) rfl (by decide)) ?_
                intro m20 I21 W22
                have F23 : Fr l_159 0 0 g μ m20 := F0.w W22 gA0 rfl
                refine w_t (np := 6) (l2 := [some (eR a0), some (eI (v18))]) (s2 := [eI (v18)]) rfl rfl rfl ?_
                refine b_ri rfl rfl ?_
                show ex_q (dt_fg L ρ) rc (d + 6, (159, 125, [some (eR a0), some (eI (a1)), some (eI (2))], [eI (v18)]), f :: F, m20)
                exact b_ri rfl rfl (K g m20 (v18) I21.re I21 (F23.up rfl rfl) (by omega))
              · have b18 : 0 ≤ v14 ∧ v14 ≤ 0 := by omega
                refine w_t (np := 110) (l2 := [some (eR a0), some (eI (a1)), some (eI (2))]) (s2 := [eI (-1), eR a0]) rfl rfl rfl ?_
                refine w_go (t1 := 122) rfl rfl ?_
                refine w_cw (np := 125) (as := [eI (-1)]) (l2 := [some (eR a0), some (eI (-1))]) (rest := []) rfl rfl rfl (Nat.ble_eq.mp rfl) rfl rfl rfl (hI.kd gA0 (by decide) (n := 14) rfl) rfl ?_
                refine w_t (np := 1) (l2 := [some (eR a0), some (eI (-1))]) (s2 := [eR a0]) rfl (s_an rfl (pos_g hI gA0 (by decide))) rfl ?_
                refine w_t (np := 2) (l2 := [some (eR a0), some (eI (-1))]) (s2 := [eI (0), eR a0]) rfl rfl rfl ?_
                refine j_pf (np := 5) (w := 0) rfl rfl hI gA0 (by decide) (n := 14) rfl rfl (hO_i (lo := -2147483648) (hi := 2147483647) rfl (by decide)) ?_
                intro m18 I19 W20
                have F21 : Fr l_159 0 0 g μ m18 := F0.w W20 gA0 rfl
                refine w_t (np := 6) (l2 := [some (eR a0), some (eI (-1))]) (s2 := [eI (-1)]) rfl rfl rfl ?_
                refine b_ri rfl rfl ?_
                show ex_q (dt_fg L ρ) rc (d + 6, (159, 125, [some (eR a0), some (eI (a1)), some (eI (2))], [eI (-1)]), f :: F, m18)
                exact b_ri rfl rfl (K g m18 (-1) I19.re I19 (F21.up rfl rfl) (by decide))
            · subst g13
              refine w_j (np := 126) (st' := []) rfl rfl rfl ?_
              refine w_t (np := 127) (l2 := [some (eR a0), some (eI (a1)), some (eI (3))]) (s2 := [eR a0]) rfl (s_an rfl (pos_g hI gA0 (by decide))) rfl ?_
              refine w_t (np := 128) (l2 := [some (eR a0), some (eI (a1)), some (eI (3))]) (s2 := [eR a0, eR a0]) rfl (s_an rfl (pos_g hI gA0 (by decide))) rfl ?_
              refine w_gf (np := 131) (v := eR v3) rfl rfl (hI.kd gA0 (by decide) (n := 14) rfl) (by rw [e4]; rfl) ?_
              refine j_gi (np := 134) rfl rfl rfl hI b5 (by decide) (n := 8) rfl rfl (lo := 0) (hi := 5) rfl ?_
              intro v14 e15 b16
              refine b_ine (t1 := 141) (t2 := 137) rfl rfl rfl (ev_w_in (by omega) (by omega)) (fun g17 => ?_) (fun g17 => ?_)
              · have b18 : 1 ≤ v14 ∧ v14 ≤ 5 := by omega
                refine w_t (np := 142) (l2 := [some (eR a0), some (eI (a1)), some (eI (3))]) (s2 := [eR a0, eR a0]) rfl (s_an rfl (pos_g hI gA0 (by decide))) rfl ?_
                refine w_gf (np := 145) (v := eR v3) rfl rfl (hI.kd gA0 (by decide) (n := 14) rfl) (by rw [e4]; rfl) ?_
                refine w_t (np := 146) (l2 := [some (eR a0), some (eI (a1)), some (eI (3))]) (s2 := [eI (a1), eR v3, eR a0]) rfl rfl rfl ?_
                refine w_cw (np := 149) (as := [eI (a1)]) (l2 := [some (eR v3), some (eI (a1))]) (rest := [eR a0]) rfl rfl rfl (Nat.ble_eq.mp rfl) rfl rfl rfl (hI.kd b5 (by decide) (n := 8) rfl) rfl ?_
                refine s_20_2 (a1 := a1) hI b5 (by omega) ?_
                intro v18 b19
                show ex_q (dt_fg L ρ) rc (d + 6, (159, 149, [some (eR a0), some (eI (a1)), some (eI (3))], [eI (v18), eR a0]), f :: F, μ)
                refine w_t (np := 150) (l2 := [some (eR a0), some (eI (a1)), some (eI (3))]) (s2 := [eI (3), eI (v18), eR a0]) rfl rfl rfl ?_
                obtain ⟨v20, e21, b22⟩ := h_irem (a := v18) (k := 3) (by decide) (by decide) b19
                have b23 : -2 ≤ v20 ∧ v20 ≤ 2 := by omega
                refine w_t (np := 151) (l2 := [some (eR a0), some (eI (a1)), some (eI (3))]) (s2 := [eI (v20), eR a0]) rfl (e21 _ _) rfl ?_
                refine w_cw (np := 154) (as := [eI (v20)]) (l2 := [some (eR a0), some (eI (v20))]) (rest := []) rfl rfl rfl (Nat.ble_eq.mp rfl) rfl rfl rfl (hI.kd gA0 (by decide) (n := 14) rfl) rfl ?_
                refine w_t (np := 1) (l2 := [some (eR a0), some (eI (v20))]) (s2 := [eR a0]) rfl (s_an rfl (pos_g hI gA0 (by decide))) rfl ?_
                refine w_t (np := 2) (l2 := [some (eR a0), some (eI (v20))]) (s2 := [eI (0), eR a0]) rfl rfl rfl ?_
                refine j_pf (np := 5) (w := 0) rfl rfl hI gA0 (by decide) (n := 14) rfl rfl (hO_i (lo := -2147483648) (hi := 2147483647) rfl (by decide)) ?_
                intro m24 I25 W26
                have F27 : Fr l_159 0 0 g μ m24 := F0.w W26 gA0 rfl
                refine w_t (np := 6) (l2 := [some (eR a0), some (eI (v20))]) (s2 := [eI (v20)]) rfl rfl rfl ?_
                refine b_ri rfl rfl ?_
                show ex_q (dt_fg L ρ) rc (d + 6, (159, 154, [some (eR a0), some (eI (a1)), some (eI (3))], [eI (v20)]), f :: F, m24)
                exact b_ri rfl rfl (K g m24 (v20) I25.re I25 (F27.up rfl rfl) (by omega))
              · have b18 : 0 ≤ v14 ∧ v14 ≤ 0 := by omega
                refine w_t (np := 138) (l2 := [some (eR a0), some (eI (a1)), some (eI (3))]) (s2 := [eI (-1), eR a0]) rfl rfl rfl ?_
                refine w_go (t1 := 151) rfl rfl ?_
                refine w_cw (np := 154) (as := [eI (-1)]) (l2 := [some (eR a0), some (eI (-1))]) (rest := []) rfl rfl rfl (Nat.ble_eq.mp rfl) rfl rfl rfl (hI.kd gA0 (by decide) (n := 14) rfl) rfl ?_
                refine w_t (np := 1) (l2 := [some (eR a0), some (eI (-1))]) (s2 := [eR a0]) rfl (s_an rfl (pos_g hI gA0 (by decide))) rfl ?_
                refine w_t (np := 2) (l2 := [some (eR a0), some (eI (-1))]) (s2 := [eI (0), eR a0]) rfl rfl rfl ?_
                refine j_pf (np := 5) (w := 0) rfl rfl hI gA0 (by decide) (n := 14) rfl rfl (hO_i (lo := -2147483648) (hi := 2147483647) rfl (by decide)) ?_
                intro m18 I19 W20
                have F21 : Fr l_159 0 0 g μ m18 := F0.w W20 gA0 rfl
                refine w_t (np := 6) (l2 := [some (eR a0), some (eI (-1))]) (s2 := [eI (-1)]) rfl rfl rfl ?_
                refine b_ri rfl rfl ?_
                show ex_q (dt_fg L ρ) rc (d + 6, (159, 154, [some (eR a0), some (eI (a1)), some (eI (3))], [eI (-1)]), f :: F, m18)
                exact b_ri rfl rfl (K g m18 (-1) I19.re I19 (F21.up rfl rfl) (by decide))
            · subst g13
              refine w_j (np := 155) (st' := []) rfl rfl rfl ?_
              refine w_t (np := 156) (l2 := [some (eR a0), some (eI (a1)), some (eI (4))]) (s2 := [eR a0]) rfl (s_an rfl (pos_g hI gA0 (by decide))) rfl ?_
              refine w_t (np := 157) (l2 := [some (eR a0), some (eI (a1)), some (eI (4))]) (s2 := [eR a0, eR a0]) rfl (s_an rfl (pos_g hI gA0 (by decide))) rfl ?_
              refine w_cw (np := 160) (as := []) (l2 := [some (eR a0)]) (rest := [eR a0]) rfl rfl rfl (Nat.ble_eq.mp rfl) rfl rfl rfl (hI.kd gA0 (by decide) (n := 14) rfl) rfl ?_
              refine s_209 hI gA0 ?_
              intro g14 m15 v19 E16 I17 F18 b20
              have F21 : Fr l_159 7 8159 g μ m15 := F0.t F18 rfl
              show ex_q (dt_fg L ρ) rc (d + 6, (159, 160, [some (eR a0), some (eI (a1)), some (eI (4))], [eR v19, eR a0]), f :: F, m15)
              refine w_t (np := 161) (l2 := [some (eR a0), some (eI (a1)), some (eI (4))]) (s2 := [eI (a1), eR v19, eR a0]) rfl rfl rfl ?_
              refine w_cw (np := 164) (as := [eI (a1)]) (l2 := [some (eR v19), some (eI (a1)), none, none]) (rest := [eR a0]) rfl rfl rfl (Nat.ble_eq.mp rfl) rfl rfl rfl (I17.kd b20 (by decide) (n := 15) rfl) rfl ?_
              refine s_117 (a1 := a1) I17 b20 (by omega) ?_
              intro v22 b23
              show ex_q (dt_fg L ρ) rc (d + 6, (159, 164, [some (eR a0), some (eI (a1)), some (eI (4))], [eI (v22), eR a0]), f :: F, m15)
              refine w_cw (np := 167) (as := [eI (v22)]) (l2 := [some (eR a0), some (eI (v22))]) (rest := []) rfl rfl rfl (Nat.ble_eq.mp rfl) rfl rfl rfl (I17.kd (E16.g gA0 (by decide)) (by decide) (n := 14) rfl) rfl ?_
              refine w_t (np := 1) (l2 := [some (eR a0), some (eI (v22))]) (s2 := [eR a0]) rfl (s_an rfl (pos_g I17 (E16.g gA0 (by decide)) (by decide))) rfl ?_
              refine w_t (np := 2) (l2 := [some (eR a0), some (eI (v22))]) (s2 := [eI (0), eR a0]) rfl rfl rfl ?_
              refine j_pf (np := 5) (w := 0) rfl rfl I17 (E16.g gA0 (by decide)) (by decide) (n := 14) rfl rfl (hO_i (lo := -2147483648) (hi := 2147483647) rfl (by decide)) ?_
              intro m24 I25 W26
              have F27 : Fr l_159 7 8159 g μ m24 := F21.w3 E16 W26 (E16.g gA0 (by decide)) rfl
              refine w_t (np := 6) (l2 := [some (eR a0), some (eI (v22))]) (s2 := [eI (v22)]) rfl rfl rfl ?_
              refine b_ri rfl rfl ?_
              show ex_q (dt_fg L ρ) rc (d + 6, (159, 167, [some (eR a0), some (eI (a1)), some (eI (4))], [eI (v22)]), f :: F, m24)
              exact b_ri rfl rfl (K g14 m24 (v22) E16 I25 F27 (by omega))
            · subst g13
              refine w_j (np := 168) (st' := []) rfl rfl rfl ?_
              refine w_t (np := 169) (l2 := [some (eR a0), some (eI (a1)), some (eI (5))]) (s2 := [eR a0]) rfl (s_an rfl (pos_g hI gA0 (by decide))) rfl ?_
              refine w_t (np := 170) (l2 := [some (eR a0), some (eI (a1)), some (eI (5))]) (s2 := [eR a0, eR a0]) rfl (s_an rfl (pos_g hI gA0 (by decide))) rfl ?_
              refine w_cw (np := 173) (as := []) (l2 := [some (eR a0)]) (rest := [eR a0]) rfl rfl rfl (Nat.ble_eq.mp rfl) rfl rfl rfl (hI.kd gA0 (by decide) (n := 14) rfl) rfl ?_
              refine s_209 hI gA0 ?_
              intro g14 m15 v19 E16 I17 F18 b20
              have F21 : Fr l_159 7 8159 g μ m15 := F0.t F18 rfl
              show ex_q (dt_fg L ρ) rc (d + 6, (159, 173, [some (eR a0), some (eI (a1)), some (eI (5))], [eR v19, eR a0]), f :: F, m15)
              refine w_t (np := 174) (l2 := [some (eR a0), some (eI (a1)), some (eI (5))]) (s2 := [eI (a1), eR v19, eR a0]) rfl rfl rfl ?_
              refine w_t (np := 175) (l2 := [some (eR a0), some (eI (a1)), some (eI (5))]) (s2 := [eI (0), eI (a1), eR v19, eR a0]) rfl rfl rfl ?_
              refine w_cw (np := 178) (as := [eI (a1), eI (0)]) (l2 := [some (eR v19), some (eI (a1)), some (eI (0)), none]) (rest := [eR a0]) rfl rfl rfl (Nat.ble_eq.mp rfl) rfl rfl rfl (I17.kd b20 (by decide) (n := 15) rfl) rfl ?_
              refine s_116 (a1 := a1) (a2 := 0) I17 b20 (by omega) (by decide) ?_
              intro v22 b23
              show ex_q (dt_fg L ρ) rc (d + 6, (159, 178, [some (eR a0), some (eI (a1)), some (eI (5))], [eI (v22), eR a0]), f :: F, m15)
              refine w_cw (np := 181) (as := [eI (v22)]) (l2 := [some (eR a0), some (eI (v22))]) (rest := []) rfl rfl rfl (Nat.ble_eq.mp rfl) rfl rfl rfl (I17.kd (E16.g gA0 (by decide)) (by decide) (n := 14) rfl) rfl ?_
              refine w_t (np := 1) (l2 := [some (eR a0), some (eI (v22))]) (s2 := [eR a0]) rfl (s_an rfl (pos_g I17 (E16.g gA0 (by decide)) (by decide))) rfl ?_
              refine w_t (np := 2) (l2 := [some (eR a0), some (eI (v22))]) (s2 := [eI (0), eR a0]) rfl rfl rfl ?_
              refine j_pf (np := 5) (w := 0) rfl rfl I17 (E16.g gA0 (by decide)) (by decide) (n := 14) rfl rfl (hO_i (lo := -2147483648) (hi := 2147483647) rfl (by decide)) ?_
              intro m24 I25 W26
              have F27 : Fr l_159 7 8159 g μ m24 := F21.w3 E16 W26 (E16.g gA0 (by decide)) rfl
              refine w_t (np := 6) (l2 := [some (eR a0), some (eI (v22))]) (s2 := [eI (v22)]) rfl rfl rfl ?_
              refine b_ri rfl rfl ?_
              show ex_q (dt_fg L ρ) rc (d + 6, (159, 181, [some (eR a0), some (eI (a1)), some (eI (5))], [eI (v22)]), f :: F, m24)
              exact b_ri rfl rfl (K g14 m24 (v22) E16 I25 F27 (by omega))
            · subst g13
              refine w_j (np := 182) (st' := []) rfl rfl rfl ?_
              refine w_t (np := 183) (l2 := [some (eR a0), some (eI (a1)), some (eI (6))]) (s2 := [eR a0]) rfl (s_an rfl (pos_g hI gA0 (by decide))) rfl ?_
              refine w_t (np := 184) (l2 := [some (eR a0), some (eI (a1)), some (eI (6))]) (s2 := [eR a0, eR a0]) rfl (s_an rfl (pos_g hI gA0 (by decide))) rfl ?_
              refine w_cw (np := 187) (as := []) (l2 := [some (eR a0)]) (rest := [eR a0]) rfl rfl rfl (Nat.ble_eq.mp rfl) rfl rfl rfl (hI.kd gA0 (by decide) (n := 14) rfl) rfl ?_
              refine s_209 hI gA0 ?_
              intro g14 m15 v19 E16 I17 F18 b20
              have F21 : Fr l_159 7 8159 g μ m15 := F0.t F18 rfl
              show ex_q (dt_fg L ρ) rc (d + 6, (159, 187, [some (eR a0), some (eI (a1)), some (eI (6))], [eR v19, eR a0]), f :: F, m15)
              refine w_t (np := 188) (l2 := [some (eR a0), some (eI (a1)), some (eI (6))]) (s2 := [eI (a1), eR v19, eR a0]) rfl rfl rfl ?_
              refine w_t (np := 189) (l2 := [some (eR a0), some (eI (a1)), some (eI (6))]) (s2 := [eI (1), eI (a1), eR v19, eR a0]) rfl rfl rfl ?_
              refine w_cw (np := 192) (as := [eI (a1), eI (1)]) (l2 := [some (eR v19), some (eI (a1)), some (eI (1)), none]) (rest := [eR a0]) rfl rfl rfl (Nat.ble_eq.mp rfl) rfl rfl rfl (I17.kd b20 (by decide) (n := 15) rfl) rfl ?_
              refine s_116 (a1 := a1) (a2 := 1) I17 b20 (by omega) (by decide) ?_
              intro v22 b23
              show ex_q (dt_fg L ρ) rc (d + 6, (159, 192, [some (eR a0), some (eI (a1)), some (eI (6))], [eI (v22), eR a0]), f :: F, m15)
              refine w_cw (np := 195) (as := [eI (v22)]) (l2 := [some (eR a0), some (eI (v22))]) (rest := []) rfl rfl rfl (Nat.ble_eq.mp rfl) rfl rfl rfl (I17.kd (E16.g gA0 (by decide)) (by decide) (n := 14) rfl) rfl ?_
              refine w_t (np := 1) (l2 := [some (eR a0), some (eI (v22))]) (s2 := [eR a0]) rfl (s_an rfl (pos_g I17 (E16.g gA0 (by decide)) (by decide))) rfl ?_
              refine w_t (np := 2) (l2 := [some (eR a0), some (eI (v22))]) (s2 := [eI (0), eR a0]) rfl rfl rfl ?_
              refine j_pf (np := 5) (w := 0) rfl rfl I17 (E16.g gA0 (by decide)) (by decide) (n := 14) rfl rfl (hO_i (lo := -2147483648) (hi := 2147483647) rfl (by decide)) ?_
              intro m24 I25 W26
              have F27 : Fr l_159 7 8159 g μ m24 := F21.w3 E16 W26 (E16.g gA0 (by decide)) rfl
              refine w_t (np := 6) (l2 := [some (eR a0), some (eI (v22))]) (s2 := [eI (v22)]) rfl rfl rfl ?_
              refine b_ri rfl rfl ?_
              show ex_q (dt_fg L ρ) rc (d + 6, (159, 195, [some (eR a0), some (eI (a1)), some (eI (6))], [eI (v22)]), f :: F, m24)
              exact b_ri rfl rfl (K g14 m24 (v22) E16 I25 F27 (by omega))
          · refine w_t (np := 13) (l2 := [some (eR v3), some (eI (a1))]) (s2 := [eI (1)]) rfl rfl rfl ?_
            refine w_go (t1 := 17) rfl rfl ?_
            refine b_rz rfl rfl (Or.inr rfl) ?_
            show ex_q (dt_fg L ρ) rc (d + 6, (159, 24, [some (eR a0), some (eI (a1)), some (eI (a2))], [eI (1)]), f :: F, μ)
            refine b_ieq (t1 := 33) (t2 := 27) rfl rfl rfl rfl (fun g12 => absurd g12 (by decide)) (fun g12 => ?_)
            refine w_t (np := 28) (l2 := [some (eR a0), some (eI (a1)), some (eI (a2))]) (s2 := [eR a0]) rfl (s_an rfl (pos_g hI gA0 (by decide))) rfl ?_
            refine w_t (np := 29) (l2 := [some (eR a0), some (eI (a1)), some (eI (a2))]) (s2 := [eI (2), eR a0]) rfl rfl rfl ?_
            refine w_cw (np := 32) (as := [eI (2)]) (l2 := [some (eR a0), some (eI (2))]) (rest := []) rfl rfl rfl (Nat.ble_eq.mp rfl) rfl rfl rfl (hI.kd gA0 (by decide) (n := 14) rfl) rfl ?_
            refine w_t (np := 1) (l2 := [some (eR a0), some (eI (2))]) (s2 := [eR a0]) rfl (s_an rfl (pos_g hI gA0 (by decide))) rfl ?_
            refine w_t (np := 2) (l2 := [some (eR a0), some (eI (2))]) (s2 := [eI (2), eR a0]) rfl rfl rfl ?_
            refine j_pf (np := 5) (w := 2) rfl rfl hI gA0 (by decide) (n := 14) rfl rfl (hO_i (lo := -2147483648) (hi := 2147483647) rfl (by decide)) ?_
            intro m13 I14 W15
            have F16 : Fr l_159 0 0 g μ m13 := F0.w W15 gA0 rfl
            refine w_t (np := 6) (l2 := [some (eR a0), some (eI (2))]) (s2 := [eI (-1)]) rfl rfl rfl ?_
            refine b_ri rfl rfl ?_
            show ex_q (dt_fg L ρ) rc (d + 6, (159, 32, [some (eR a0), some (eI (a1)), some (eI (a2))], [eI (-1)]), f :: F, m13)
            exact b_ri rfl rfl (K g m13 (-1) I14.re I14 (F16.up rfl rfl) (by decide))
    · have b3 : 7 ≤ a2 ∧ a2 ≤ 2147483647 := by omega
      refine w_t (np := 11) (l2 := [some (eR a0), some (eI (a1)), some (eI (a2))]) (s2 := [eR a0]) rfl (s_an rfl (pos_g hI gA0 (by decide))) rfl ?_
      refine w_t (np := 12) (l2 := [some (eR a0), some (eI (a1)), some (eI (a2))]) (s2 := [eI (1), eR a0]) rfl rfl rfl ?_
      refine w_cw (np := 15) (as := [eI (1)]) (l2 := [some (eR a0), some (eI (1))]) (rest := []) rfl rfl rfl (Nat.ble_eq.mp rfl) rfl rfl rfl (hI.kd gA0 (by decide) (n := 14) rfl) rfl ?_
      refine w_t (np := 1) (l2 := [some (eR a0), some (eI (1))]) (s2 := [eR a0]) rfl (s_an rfl (pos_g hI gA0 (by decide))) rfl ?_
      refine w_t (np := 2) (l2 := [some (eR a0), some (eI (1))]) (s2 := [eI (1), eR a0]) rfl rfl rfl ?_
      refine j_pf (np := 5) (w := 1) rfl rfl hI gA0 (by decide) (n := 14) rfl rfl (hO_i (lo := -2147483648) (hi := 2147483647) rfl (by decide)) ?_
      intro m3 I4 W5
      have F6 : Fr l_159 0 0 g μ m3 := F0.w W5 gA0 rfl
      refine w_t (np := 6) (l2 := [some (eR a0), some (eI (1))]) (s2 := [eI (-1)]) rfl rfl rfl ?_
      refine b_ri rfl rfl ?_
      show ex_q (dt_fg L ρ) rc (d + 6, (159, 15, [some (eR a0), some (eI (a1)), some (eI (a2))], [eI (-1)]), f :: F, m3)
      exact b_ri rfl rfl (K g m3 (-1) I4.re I4 (F6.up rfl rfl) (by decide))
