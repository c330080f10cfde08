/-! methods, walked -/
set_option maxHeartbeats 8000000 in
theorem s_327e {L : Nat} {ρ : Nat → Int} {rc : eQ} {d : Nat} {f : eFr} {F : List eFr} {μ : eM} {g : Nat → Nat} {a0 : Nat} {a1 : Int} (hI : SI g μ) (gA0 : g a0 = 52) (bA1 : 0 ≤ a1 ∧ a1 ≤ 9) (K : ∀ (v : Int), (0 ≤ v ∧ v ≤ 9) → (v = gG (μ.1 (μ.1 a0 51).toNat) a1) → ex_q (dt_fg L ρ) rc (d + 2, (f.1, f.2.1, f.2.2.1, eI v :: f.2.2.2), F, μ)) : ex_q (dt_fg L ρ) rc (d + 1, (327, 0, [some (eR a0), some (eI (a1)), none], []), f :: F, μ) := by
  rcases (show a1 = 0 ∨ a1 = 1 ∨ a1 = 2 ∨ a1 = 3 ∨ a1 = 4 ∨ a1 = 5 ∨ a1 = 6 ∨ a1 = 7 ∨ a1 = 8 ∨ a1 = 9 by omega) with g1 | g1 | g1 | g1 | g1 | g1 | g1 | g1 | g1 | g1
  · subst g1
    refine w_t (np := 1) (l2 := [some (eR a0), some (eI (0)), none]) (s2 := [eR a0]) rfl (s_an rfl (pos_g hI gA0 (by decide))) rfl ?_
    refine j_gr (np := 4) rfl rfl hI gA0 (by decide) (n := 69) rfl rfl rfl ?_
    intro v2 e3 b4 z5
    have b4 : g v2 = 85 := Nat.eq_of_beq_eq_true b4
    refine w_t (np := 5) (l2 := [some (eR a0), some (eI (0)), none]) (s2 := [eI (0), eR v2]) rfl rfl rfl ?_
    refine j_b3 (np := 6) rfl rfl hI b4 (by decide) (n := 10) rfl rfl (lo := 0) (hi := 1) (fun _ => rfl) (by decide) (by decide) ?_
    intro v6 e7 b8
    refine b_ine (t1 := 24) (t2 := 9) rfl rfl rfl (ev_w_in (by omega) (by omega)) (fun g9 => ?_) (fun g9 => ?_)
    · have b10 : 1 ≤ v6 ∧ v6 ≤ 1 := by omega
      refine w_t (np := 25) (l2 := [some (eR a0), some (eI (0)), none]) (s2 := [eI (0)]) rfl rfl rfl ?_
      exact b_ri rfl rfl (K (0) (by decide) (gG_e (gG_a (r := μ.1 v2) (d := 0) (fun z9 => by have z8 := (show μ.1 v2 0 = v6 from e7); have z7 : μ.1 v2 0 = 0 := z9; omega)) e3))
    · have b10 : 0 ≤ v6 ∧ v6 ≤ 0 := by omega
      refine w_t (np := 10) (l2 := [some (eR a0), some (eI (0)), none]) (s2 := [eR a0]) rfl (s_an rfl (pos_g hI gA0 (by decide))) rfl ?_
      refine w_gf (np := 13) (v := eR v2) rfl rfl (hI.kd gA0 (by decide) (n := 69) rfl) (by rw [e3]; rfl) ?_
      refine w_t (np := 14) (l2 := [some (eR a0), some (eI (0)), none]) (s2 := [eI (0), eR v2]) rfl rfl rfl ?_
      refine w_t (np := 16) (l2 := [some (eR a0), some (eI (0)), none]) (s2 := [eI (9), eI (0), eR v2]) rfl rfl rfl ?_
      refine w_t (np := 17) (l2 := [some (eR a0), some (eI (0)), none]) (s2 := [eI (9), eR v2]) rfl (b_iadd rfl) rfl ?_
      refine w_cu (np := 20) (as := [eI (9)]) (l2 := [some (eI (9))]) (rest := [eR v2]) rfl rfl rfl (Nat.ble_eq.mp rfl) rfl rfl rfl rfl ?_
      refine w_t (np := 1) (l2 := [some (eI (9))]) (s2 := [eI (9)]) rfl rfl rfl ?_
      refine w_t (np := 3) (l2 := [some (eI (9))]) (s2 := [eI (10), eI (9)]) rfl rfl rfl ?_
      refine w_t (np := 4) (l2 := [some (eI (9))]) (s2 := [eI (9)]) rfl rfl rfl ?_
      refine w_t (np := 6) (l2 := [some (eI (9))]) (s2 := [eI (10), eI (9)]) rfl rfl rfl ?_
      refine w_t (np := 7) (l2 := [some (eI (9))]) (s2 := [eI (19)]) rfl (b_iadd rfl) rfl ?_
      refine w_t (np := 9) (l2 := [some (eI (9))]) (s2 := [eI (10), eI (19)]) rfl rfl rfl ?_
      refine w_t (np := 10) (l2 := [some (eI (9))]) (s2 := [eI (9)]) rfl rfl rfl ?_
      refine b_ri rfl rfl ?_
      show ex_q (dt_fg L ρ) rc (d + 1, (327, 20, [some (eR a0), some (eI (0)), none], [eI (9), eR v2]), f :: F, μ)
      refine j_b3 (np := 21) rfl rfl hI b4 (by decide) (n := 10) rfl rfl (lo := 0) (hi := 1) (fun _ => rfl) (by decide) (by decide) ?_
      intro v10 e11 b12
      refine b_ine (t1 := 26) (t2 := 24) rfl rfl rfl (ev_w_in (by omega) (by omega)) (fun g13 => ?_) (fun g13 => ?_)
      · have b14 : 1 ≤ v10 ∧ v10 ≤ 1 := by omega
        refine w_t (np := 27) (l2 := [some (eR a0), some (eI (0)), none]) (s2 := [eI (1)]) rfl rfl rfl ?_
        refine w_t (np := 28) (l2 := [some (eR a0), some (eI (0)), some (eI (1))]) (s2 := []) rfl rfl rfl ?_
        refine w_t (np := 29) (l2 := [some (eR a0), some (eI (0)), some (eI (1))]) (s2 := [eR a0]) rfl (s_an rfl (pos_g hI gA0 (by decide))) rfl ?_
        refine w_gf (np := 32) (v := eR v2) rfl rfl (hI.kd gA0 (by decide) (n := 69) rfl) (by rw [e3]; rfl) ?_
        refine w_t (np := 33) (l2 := [some (eR a0), some (eI (0)), some (eI (1))]) (s2 := [eI (0), eR v2]) rfl rfl rfl ?_
        refine w_t (np := 34) (l2 := [some (eR a0), some (eI (0)), some (eI (1))]) (s2 := [eI (1), eI (0), eR v2]) rfl rfl rfl ?_
        refine w_t (np := 35) (l2 := [some (eR a0), some (eI (0)), some (eI (1))]) (s2 := [eI (1), eR v2]) rfl (b_iadd rfl) rfl ?_
        refine w_cu (np := 38) (as := [eI (1)]) (l2 := [some (eI (1))]) (rest := [eR v2]) rfl rfl rfl (Nat.ble_eq.mp rfl) rfl rfl rfl rfl ?_
        refine w_t (np := 1) (l2 := [some (eI (1))]) (s2 := [eI (1)]) rfl rfl rfl ?_
        refine w_t (np := 3) (l2 := [some (eI (1))]) (s2 := [eI (10), eI (1)]) rfl rfl rfl ?_
        refine w_t (np := 4) (l2 := [some (eI (1))]) (s2 := [eI (1)]) rfl rfl rfl ?_
        refine w_t (np := 6) (l2 := [some (eI (1))]) (s2 := [eI (10), eI (1)]) rfl rfl rfl ?_
        refine w_t (np := 7) (l2 := [some (eI (1))]) (s2 := [eI (11)]) rfl (b_iadd rfl) rfl ?_
        refine w_t (np := 9) (l2 := [some (eI (1))]) (s2 := [eI (10), eI (11)]) rfl rfl rfl ?_
        refine w_t (np := 10) (l2 := [some (eI (1))]) (s2 := [eI (1)]) rfl rfl rfl ?_
        refine b_ri rfl rfl ?_
        show ex_q (dt_fg L ρ) rc (d + 1, (327, 38, [some (eR a0), some (eI (0)), some (eI (1))], [eI (1), eR v2]), f :: F, μ)
        refine j_b3 (np := 39) rfl rfl hI b4 (by decide) (n := 10) rfl rfl (lo := 0) (hi := 1) (fun _ => rfl) (by decide) (by decide) ?_
        intro v14 e15 b16
        refine b_ine (t1 := 48) (t2 := 42) rfl rfl rfl (ev_w_in (by omega) (by omega)) (fun g17 => ?_) (fun g17 => ?_)
        · have b18 : 1 ≤ v14 ∧ v14 ≤ 1 := by omega
          refine w_t (np := 49) (l2 := [some (eR a0), some (eI (0)), some (eI (1))]) (s2 := [eI (1)]) rfl rfl rfl ?_
          exact b_ri rfl rfl (K (1) (by decide) (gG_e (gG_c (r := μ.1 v2) (d := 0) (show μ.1 v2 0 = 0 from (e7).trans (by omega)) (fun z9 => by have z8 := (show μ.1 v2 9 = v10 from e11); have z7 : μ.1 v2 9 = 0 := z9; omega) (gN_e (fun z9 => by have z8 := (show μ.1 v2 1 = v14 from e15); have z7 : μ.1 v2 1 = 0 := z9; omega) rfl)) e3))
        · have b18 : 0 ≤ v14 ∧ v14 ≤ 0 := by omega
          refine w_t (np := 45) (l2 := [some (eR a0), some (eI (0)), some (eI (2))]) (s2 := []) rfl (b_iinc rfl rfl rfl) rfl ?_
          refine w_go (t1 := 28) rfl rfl ?_
          refine w_t (np := 29) (l2 := [some (eR a0), some (eI (0)), some (eI (2))]) (s2 := [eR a0]) rfl (s_an rfl (pos_g hI gA0 (by decide))) rfl ?_
          refine w_gf (np := 32) (v := eR v2) rfl rfl (hI.kd gA0 (by decide) (n := 69) rfl) (by rw [e3]; rfl) ?_
          refine w_t (np := 33) (l2 := [some (eR a0), some (eI (0)), some (eI (2))]) (s2 := [eI (0), eR v2]) rfl rfl rfl ?_
          refine w_t (np := 34) (l2 := [some (eR a0), some (eI (0)), some (eI (2))]) (s2 := [eI (2), eI (0), eR v2]) rfl rfl rfl ?_
          refine w_t (np := 35) (l2 := [some (eR a0), some (eI (0)), some (eI (2))]) (s2 := [eI (2), eR v2]) rfl (b_iadd rfl) rfl ?_
          refine w_cu (np := 38) (as := [eI (2)]) (l2 := [some (eI (2))]) (rest := [eR v2]) rfl rfl rfl (Nat.ble_eq.mp rfl) rfl rfl rfl rfl ?_
          refine w_t (np := 1) (l2 := [some (eI (2))]) (s2 := [eI (2)]) rfl rfl rfl ?_
          refine w_t (np := 3) (l2 := [some (eI (2))]) (s2 := [eI (10), eI (2)]) rfl rfl rfl ?_
          refine w_t (np := 4) (l2 := [some (eI (2))]) (s2 := [eI (2)]) rfl rfl rfl ?_
          refine w_t (np := 6) (l2 := [some (eI (2))]) (s2 := [eI (10), eI (2)]) rfl rfl rfl ?_
          refine w_t (np := 7) (l2 := [some (eI (2))]) (s2 := [eI (12)]) rfl (b_iadd rfl) rfl ?_
          refine w_t (np := 9) (l2 := [some (eI (2))]) (s2 := [eI (10), eI (12)]) rfl rfl rfl ?_
          refine w_t (np := 10) (l2 := [some (eI (2))]) (s2 := [eI (2)]) rfl rfl rfl ?_
          refine b_ri rfl rfl ?_
          show ex_q (dt_fg L ρ) rc (d + 1, (327, 38, [some (eR a0), some (eI (0)), some (eI (2))], [eI (2), eR v2]), f :: F, μ)
          refine j_b3 (np := 39) rfl rfl hI b4 (by decide) (n := 10) rfl rfl (lo := 0) (hi := 1) (fun _ => rfl) (by decide) (by decide) ?_
          intro v18 e19 b20
          refine b_ine (t1 := 48) (t2 := 42) rfl rfl rfl (ev_w_in (by omega) (by omega)) (fun g21 => ?_) (fun g21 => ?_)
          · have b22 : 1 ≤ v18 ∧ v18 ≤ 1 := by omega
            refine w_t (np := 49) (l2 := [some (eR a0), some (eI (0)), some (eI (2))]) (s2 := [eI (2)]) rfl rfl rfl ?_
            exact b_ri rfl rfl (K (2) (by decide) (gG_e (gG_c (r := μ.1 v2) (d := 0) (show μ.1 v2 0 = 0 from (e7).trans (by omega)) (fun z9 => by have z8 := (show μ.1 v2 9 = v10 from e11); have z7 : μ.1 v2 9 = 0 := z9; omega) (gN_s (show μ.1 v2 1 = 0 from (e15).trans (by omega)) (gN_e (fun z9 => by have z8 := (show μ.1 v2 2 = v18 from e19); have z7 : μ.1 v2 2 = 0 := z9; omega) rfl))) e3))
          · have b22 : 0 ≤ v18 ∧ v18 ≤ 0 := by omega
            refine w_t (np := 45) (l2 := [some (eR a0), some (eI (0)), some (eI (3))]) (s2 := []) rfl (b_iinc rfl rfl rfl) rfl ?_
            refine w_go (t1 := 28) rfl rfl ?_
            refine w_t (np := 29) (l2 := [some (eR a0), some (eI (0)), some (eI (3))]) (s2 := [eR a0]) rfl (s_an rfl (pos_g hI gA0 (by decide))) rfl ?_
            refine w_gf (np := 32) (v := eR v2) rfl rfl (hI.kd gA0 (by decide) (n := 69) rfl) (by rw [e3]; rfl) ?_
            refine w_t (np := 33) (l2 := [some (eR a0), some (eI (0)), some (eI (3))]) (s2 := [eI (0), eR v2]) rfl rfl rfl ?_
            refine w_t (np := 34) (l2 := [some (eR a0), some (eI (0)), some (eI (3))]) (s2 := [eI (3), eI (0), eR v2]) rfl rfl rfl ?_
            refine w_t (np := 35) (l2 := [some (eR a0), some (eI (0)), some (eI (3))]) (s2 := [eI (3), eR v2]) rfl (b_iadd rfl) rfl ?_
            refine w_cu (np := 38) (as := [eI (3)]) (l2 := [some (eI (3))]) (rest := [eR v2]) rfl rfl rfl (Nat.ble_eq.mp rfl) rfl rfl rfl rfl ?_
            refine w_t (np := 1) (l2 := [some (eI (3))]) (s2 := [eI (3)]) rfl rfl rfl ?_
            refine w_t (np := 3) (l2 := [some (eI (3))]) (s2 := [eI (10), eI (3)]) rfl rfl rfl ?_
            refine w_t (np := 4) (l2 := [some (eI (3))]) (s2 := [eI (3)]) rfl rfl rfl ?_
            refine w_t (np := 6) (l2 := [some (eI (3))]) (s2 := [eI (10), eI (3)]) rfl rfl rfl ?_
            refine w_t (np := 7) (l2 := [some (eI (3))]) (s2 := [eI (13)]) rfl (b_iadd rfl) rfl ?_
            refine w_t (np := 9) (l2 := [some (eI (3))]) (s2 := [eI (10), eI (13)]) rfl rfl rfl ?_
            refine w_t (np := 10) (l2 := [some (eI (3))]) (s2 := [eI (3)]) rfl rfl rfl ?_
            refine b_ri rfl rfl ?_
            show ex_q (dt_fg L ρ) rc (d + 1, (327, 38, [some (eR a0), some (eI (0)), some (eI (3))], [eI (3), eR v2]), f :: F, μ)
            refine j_b3 (np := 39) rfl rfl hI b4 (by decide) (n := 10) rfl rfl (lo := 0) (hi := 1) (fun _ => rfl) (by decide) (by decide) ?_
            intro v22 e23 b24
            refine b_ine (t1 := 48) (t2 := 42) rfl rfl rfl (ev_w_in (by omega) (by omega)) (fun g25 => ?_) (fun g25 => ?_)
            · have b26 : 1 ≤ v22 ∧ v22 ≤ 1 := by omega
              refine w_t (np := 49) (l2 := [some (eR a0), some (eI (0)), some (eI (3))]) (s2 := [eI (3)]) rfl rfl rfl ?_
              exact b_ri rfl rfl (K (3) (by decide) (gG_e (gG_c (r := μ.1 v2) (d := 0) (show μ.1 v2 0 = 0 from (e7).trans (by omega)) (fun z9 => by have z8 := (show μ.1 v2 9 = v10 from e11); have z7 : μ.1 v2 9 = 0 := z9; omega) (gN_s (show μ.1 v2 1 = 0 from (e15).trans (by omega)) (gN_s (show μ.1 v2 2 = 0 from (e19).trans (by omega)) (gN_e (fun z9 => by have z8 := (show μ.1 v2 3 = v22 from e23); have z7 : μ.1 v2 3 = 0 := z9; omega) rfl)))) e3))
            · have b26 : 0 ≤ v22 ∧ v22 ≤ 0 := by omega
              refine w_t (np := 45) (l2 := [some (eR a0), some (eI (0)), some (eI (4))]) (s2 := []) rfl (b_iinc rfl rfl rfl) rfl ?_
              refine w_go (t1 := 28) rfl rfl ?_
              refine w_t (np := 29) (l2 := [some (eR a0), some (eI (0)), some (eI (4))]) (s2 := [eR a0]) rfl (s_an rfl (pos_g hI gA0 (by decide))) rfl ?_
              refine w_gf (np := 32) (v := eR v2) rfl rfl (hI.kd gA0 (by decide) (n := 69) rfl) (by rw [e3]; rfl) ?_
              refine w_t (np := 33) (l2 := [some (eR a0), some (eI (0)), some (eI (4))]) (s2 := [eI (0), eR v2]) rfl rfl rfl ?_
              refine w_t (np := 34) (l2 := [some (eR a0), some (eI (0)), some (eI (4))]) (s2 := [eI (4), eI (0), eR v2]) rfl rfl rfl ?_
              refine w_t (np := 35) (l2 := [some (eR a0), some (eI (0)), some (eI (4))]) (s2 := [eI (4), eR v2]) rfl (b_iadd rfl) rfl ?_
              refine w_cu (np := 38) (as := [eI (4)]) (l2 := [some (eI (4))]) (rest := [eR v2]) rfl rfl rfl (Nat.ble_eq.mp rfl) rfl rfl rfl rfl ?_
              refine w_t (np := 1) (l2 := [some (eI (4))]) (s2 := [eI (4)]) rfl rfl rfl ?_
              refine w_t (np := 3) (l2 := [some (eI (4))]) (s2 := [eI (10), eI (4)]) rfl rfl rfl ?_
              refine w_t (np := 4) (l2 := [some (eI (4))]) (s2 := [eI (4)]) rfl rfl rfl ?_
              refine w_t (np := 6) (l2 := [some (eI (4))]) (s2 := [eI (10), eI (4)]) rfl rfl rfl ?_
              refine w_t (np := 7) (l2 := [some (eI (4))]) (s2 := [eI (14)]) rfl (b_iadd rfl) rfl ?_
              refine w_t (np := 9) (l2 := [some (eI (4))]) (s2 := [eI (10), eI (14)]) rfl rfl rfl ?_
              refine w_t (np := 10) (l2 := [some (eI (4))]) (s2 := [eI (4)]) rfl rfl rfl ?_
              refine b_ri rfl rfl ?_
              show ex_q (dt_fg L ρ) rc (d + 1, (327, 38, [some (eR a0), some (eI (0)), some (eI (4))], [eI (4), eR v2]), f :: F, μ)
              refine j_b3 (np := 39) rfl rfl hI b4 (by decide) (n := 10) rfl rfl (lo := 0) (hi := 1) (fun _ => rfl) (by decide) (by decide) ?_
              intro v26 e27 b28
              refine b_ine (t1 := 48) (t2 := 42) rfl rfl rfl (ev_w_in (by omega) (by omega)) (fun g29 => ?_) (fun g29 => ?_)
              · have b30 : 1 ≤ v26 ∧ v26 ≤ 1 := by omega
                refine w_t (np := 49) (l2 := [some (eR a0), some (eI (0)), some (eI (4))]) (s2 := [eI (4)]) rfl rfl rfl ?_
                exact b_ri rfl rfl (K (4) (by decide) (gG_e (gG_c (r := μ.1 v2) (d := 0) (show μ.1 v2 0 = 0 from (e7).trans (by omega)) (fun z9 => by have z8 := (show μ.1 v2 9 = v10 from e11); have z7 : μ.1 v2 9 = 0 := z9; omega) (gN_s (show μ.1 v2 1 = 0 from (e15).trans (by omega)) (gN_s (show μ.1 v2 2 = 0 from (e19).trans (by omega)) (gN_s (show μ.1 v2 3 = 0 from (e23).trans (by omega)) (gN_e (fun z9 => by have z8 := (show μ.1 v2 4 = v26 from e27); have z7 : μ.1 v2 4 = 0 := z9; omega) rfl))))) e3))
              · have b30 : 0 ≤ v26 ∧ v26 ≤ 0 := by omega
                refine w_t (np := 45) (l2 := [some (eR a0), some (eI (0)), some (eI (5))]) (s2 := []) rfl (b_iinc rfl rfl rfl) rfl ?_
                refine w_go (t1 := 28) rfl rfl ?_
                refine w_t (np := 29) (l2 := [some (eR a0), some (eI (0)), some (eI (5))]) (s2 := [eR a0]) rfl (s_an rfl (pos_g hI gA0 (by decide))) rfl ?_
                refine w_gf (np := 32) (v := eR v2) rfl rfl (hI.kd gA0 (by decide) (n := 69) rfl) (by rw [e3]; rfl) ?_
                refine w_t (np := 33) (l2 := [some (eR a0), some (eI (0)), some (eI (5))]) (s2 := [eI (0), eR v2]) rfl rfl rfl ?_
                refine w_t (np := 34) (l2 := [some (eR a0), some (eI (0)), some (eI (5))]) (s2 := [eI (5), eI (0), eR v2]) rfl rfl rfl ?_
                refine w_t (np := 35) (l2 := [some (eR a0), some (eI (0)), some (eI (5))]) (s2 := [eI (5), eR v2]) rfl (b_iadd rfl) rfl ?_
                refine w_cu (np := 38) (as := [eI (5)]) (l2 := [some (eI (5))]) (rest := [eR v2]) rfl rfl rfl (Nat.ble_eq.mp rfl) rfl rfl rfl rfl ?_
                refine w_t (np := 1) (l2 := [some (eI (5))]) (s2 := [eI (5)]) rfl rfl rfl ?_
                refine w_t (np := 3) (l2 := [some (eI (5))]) (s2 := [eI (10), eI (5)]) rfl rfl rfl ?_
                refine w_t (np := 4) (l2 := [some (eI (5))]) (s2 := [eI (5)]) rfl rfl rfl ?_
                refine w_t (np := 6) (l2 := [some (eI (5))]) (s2 := [eI (10), eI (5)]) rfl rfl rfl ?_
                refine w_t (np := 7) (l2 := [some (eI (5))]) (s2 := [eI (15)]) rfl (b_iadd rfl) rfl ?_
                refine w_t (np := 9) (l2 := [some (eI (5))]) (s2 := [eI (10), eI (15)]) rfl rfl rfl ?_
                refine w_t (np := 10) (l2 := [some (eI (5))]) (s2 := [eI (5)]) rfl rfl rfl ?_
                refine b_ri rfl rfl ?_
                show ex_q (dt_fg L ρ) rc (d + 1, (327, 38, [some (eR a0), some (eI (0)), some (eI (5))], [eI (5), eR v2]), f :: F, μ)
                refine j_b3 (np := 39) rfl rfl hI b4 (by decide) (n := 10) rfl rfl (lo := 0) (hi := 1) (fun _ => rfl) (by decide) (by decide) ?_
                intro v30 e31 b32
                refine b_ine (t1 := 48) (t2 := 42) rfl rfl rfl (ev_w_in (by omega) (by omega)) (fun g33 => ?_) (fun g33 => ?_)
                · have b34 : 1 ≤ v30 ∧ v30 ≤ 1 := by omega
                  refine w_t (np := 49) (l2 := [some (eR a0), some (eI (0)), some (eI (5))]) (s2 := [eI (5)]) rfl rfl rfl ?_
                  exact b_ri rfl rfl (K (5) (by decide) (gG_e (gG_c (r := μ.1 v2) (d := 0) (show μ.1 v2 0 = 0 from (e7).trans (by omega)) (fun z9 => by have z8 := (show μ.1 v2 9 = v10 from e11); have z7 : μ.1 v2 9 = 0 := z9; omega) (gN_s (show μ.1 v2 1 = 0 from (e15).trans (by omega)) (gN_s (show μ.1 v2 2 = 0 from (e19).trans (by omega)) (gN_s (show μ.1 v2 3 = 0 from (e23).trans (by omega)) (gN_s (show μ.1 v2 4 = 0 from (e27).trans (by omega)) (gN_e (fun z9 => by have z8 := (show μ.1 v2 5 = v30 from e31); have z7 : μ.1 v2 5 = 0 := z9; omega) rfl)))))) e3))
                · have b34 : 0 ≤ v30 ∧ v30 ≤ 0 := by omega
                  refine w_t (np := 45) (l2 := [some (eR a0), some (eI (0)), some (eI (6))]) (s2 := []) rfl (b_iinc rfl rfl rfl) rfl ?_
                  refine w_go (t1 := 28) rfl rfl ?_
                  refine w_t (np := 29) (l2 := [some (eR a0), some (eI (0)), some (eI (6))]) (s2 := [eR a0]) rfl (s_an rfl (pos_g hI gA0 (by decide))) rfl ?_
                  refine w_gf (np := 32) (v := eR v2) rfl rfl (hI.kd gA0 (by decide) (n := 69) rfl) (by rw [e3]; rfl) ?_
                  refine w_t (np := 33) (l2 := [some (eR a0), some (eI (0)), some (eI (6))]) (s2 := [eI (0), eR v2]) rfl rfl rfl ?_
                  refine w_t (np := 34) (l2 := [some (eR a0), some (eI (0)), some (eI (6))]) (s2 := [eI (6), eI (0), eR v2]) rfl rfl rfl ?_
                  refine w_t (np := 35) (l2 := [some (eR a0), some (eI (0)), some (eI (6))]) (s2 := [eI (6), eR v2]) rfl (b_iadd rfl) rfl ?_
                  refine w_cu (np := 38) (as := [eI (6)]) (l2 := [some (eI (6))]) (rest := [eR v2]) rfl rfl rfl (Nat.ble_eq.mp rfl) rfl rfl rfl rfl ?_
                  refine w_t (np := 1) (l2 := [some (eI (6))]) (s2 := [eI (6)]) rfl rfl rfl ?_
                  refine w_t (np := 3) (l2 := [some (eI (6))]) (s2 := [eI (10), eI (6)]) rfl rfl rfl ?_
                  refine w_t (np := 4) (l2 := [some (eI (6))]) (s2 := [eI (6)]) rfl rfl rfl ?_
                  refine w_t (np := 6) (l2 := [some (eI (6))]) (s2 := [eI (10), eI (6)]) rfl rfl rfl ?_
                  refine w_t (np := 7) (l2 := [some (eI (6))]) (s2 := [eI (16)]) rfl (b_iadd rfl) rfl ?_
                  refine w_t (np := 9) (l2 := [some (eI (6))]) (s2 := [eI (10), eI (16)]) rfl rfl rfl ?_
                  refine w_t (np := 10) (l2 := [some (eI (6))]) (s2 := [eI (6)]) rfl rfl rfl ?_
                  refine b_ri rfl rfl ?_
                  show ex_q (dt_fg L ρ) rc (d + 1, (327, 38, [some (eR a0), some (eI (0)), some (eI (6))], [eI (6), eR v2]), f :: F, μ)
                  refine j_b3 (np := 39) rfl rfl hI b4 (by decide) (n := 10) rfl rfl (lo := 0) (hi := 1) (fun _ => rfl) (by decide) (by decide) ?_
                  intro v34 e35 b36
                  refine b_ine (t1 := 48) (t2 := 42) rfl rfl rfl (ev_w_in (by omega) (by omega)) (fun g37 => ?_) (fun g37 => ?_)
                  · have b38 : 1 ≤ v34 ∧ v34 ≤ 1 := by omega
                    refine w_t (np := 49) (l2 := [some (eR a0), some (eI (0)), some (eI (6))]) (s2 := [eI (6)]) rfl rfl rfl ?_
                    exact b_ri rfl rfl (K (6) (by decide) (gG_e (gG_c (r := μ.1 v2) (d := 0) (show μ.1 v2 0 = 0 from (e7).trans (by omega)) (fun z9 => by have z8 := (show μ.1 v2 9 = v10 from e11); have z7 : μ.1 v2 9 = 0 := z9; omega) (gN_s (show μ.1 v2 1 = 0 from (e15).trans (by omega)) (gN_s (show μ.1 v2 2 = 0 from (e19).trans (by omega)) (gN_s (show μ.1 v2 3 = 0 from (e23).trans (by omega)) (gN_s (show μ.1 v2 4 = 0 from (e27).trans (by omega)) (gN_s (show μ.1 v2 5 = 0 from (e31).trans (by omega)) (gN_e (fun z9 => by have z8 := (show μ.1 v2 6 = v34 from e35); have z7 : μ.1 v2 6 = 0 := z9; omega) rfl))))))) e3))
                  · have b38 : 0 ≤ v34 ∧ v34 ≤ 0 := by omega
                    refine w_t (np := 45) (l2 := [some (eR a0), some (eI (0)), some (eI (7))]) (s2 := []) rfl (b_iinc rfl rfl rfl) rfl ?_
                    refine w_go (t1 := 28) rfl rfl ?_
                    refine w_t (np := 29) (l2 := [some (eR a0), some (eI (0)), some (eI (7))]) (s2 := [eR a0]) rfl (s_an rfl (pos_g hI gA0 (by decide))) rfl ?_
                    refine w_gf (np := 32) (v := eR v2) rfl rfl (hI.kd gA0 (by decide) (n := 69) rfl) (by rw [e3]; rfl) ?_
                    refine w_t (np := 33) (l2 := [some (eR a0), some (eI (0)), some (eI (7))]) (s2 := [eI (0), eR v2]) rfl rfl rfl ?_
                    refine w_t (np := 34) (l2 := [some (eR a0), some (eI (0)), some (eI (7))]) (s2 := [eI (7), eI (0), eR v2]) rfl rfl rfl ?_
                    refine w_t (np := 35) (l2 := [some (eR a0), some (eI (0)), some (eI (7))]) (s2 := [eI (7), eR v2]) rfl (b_iadd rfl) rfl ?_
                    refine w_cu (np := 38) (as := [eI (7)]) (l2 := [some (eI (7))]) (rest := [eR v2]) rfl rfl rfl (Nat.ble_eq.mp rfl) rfl rfl rfl rfl ?_
                    refine w_t (np := 1) (l2 := [some (eI (7))]) (s2 := [eI (7)]) rfl rfl rfl ?_
                    refine w_t (np := 3) (l2 := [some (eI (7))]) (s2 := [eI (10), eI (7)]) rfl rfl rfl ?_
                    refine w_t (np := 4) (l2 := [some (eI (7))]) (s2 := [eI (7)]) rfl rfl rfl ?_
                    refine w_t (np := 6) (l2 := [some (eI (7))]) (s2 := [eI (10), eI (7)]) rfl rfl rfl ?_
                    refine w_t (np := 7) (l2 := [some (eI (7))]) (s2 := [eI (17)]) rfl (b_iadd rfl) rfl ?_
                    refine w_t (np := 9) (l2 := [some (eI (7))]) (s2 := [eI (10), eI (17)]) rfl rfl rfl ?_
                    refine w_t (np := 10) (l2 := [some (eI (7))]) (s2 := [eI (7)]) rfl rfl rfl ?_
                    refine b_ri rfl rfl ?_
                    show ex_q (dt_fg L ρ) rc (d + 1, (327, 38, [some (eR a0), some (eI (0)), some (eI (7))], [eI (7), eR v2]), f :: F, μ)
                    refine j_b3 (np := 39) rfl rfl hI b4 (by decide) (n := 10) rfl rfl (lo := 0) (hi := 1) (fun _ => rfl) (by decide) (by decide) ?_
                    intro v38 e39 b40
                    refine b_ine (t1 := 48) (t2 := 42) rfl rfl rfl (ev_w_in (by omega) (by omega)) (fun g41 => ?_) (fun g41 => ?_)
                    · have b42 : 1 ≤ v38 ∧ v38 ≤ 1 := by omega
                      refine w_t (np := 49) (l2 := [some (eR a0), some (eI (0)), some (eI (7))]) (s2 := [eI (7)]) rfl rfl rfl ?_
                      exact b_ri rfl rfl (K (7) (by decide) (gG_e (gG_c (r := μ.1 v2) (d := 0) (show μ.1 v2 0 = 0 from (e7).trans (by omega)) (fun z9 => by have z8 := (show μ.1 v2 9 = v10 from e11); have z7 : μ.1 v2 9 = 0 := z9; omega) (gN_s (show μ.1 v2 1 = 0 from (e15).trans (by omega)) (gN_s (show μ.1 v2 2 = 0 from (e19).trans (by omega)) (gN_s (show μ.1 v2 3 = 0 from (e23).trans (by omega)) (gN_s (show μ.1 v2 4 = 0 from (e27).trans (by omega)) (gN_s (show μ.1 v2 5 = 0 from (e31).trans (by omega)) (gN_s (show μ.1 v2 6 = 0 from (e35).trans (by omega)) (gN_e (fun z9 => by have z8 := (show μ.1 v2 7 = v38 from e39); have z7 : μ.1 v2 7 = 0 := z9; omega) rfl)))))))) e3))
                    · have b42 : 0 ≤ v38 ∧ v38 ≤ 0 := by omega
                      refine w_t (np := 45) (l2 := [some (eR a0), some (eI (0)), some (eI (8))]) (s2 := []) rfl (b_iinc rfl rfl rfl) rfl ?_
                      refine w_go (t1 := 28) rfl rfl ?_
                      refine w_t (np := 29) (l2 := [some (eR a0), some (eI (0)), some (eI (8))]) (s2 := [eR a0]) rfl (s_an rfl (pos_g hI gA0 (by decide))) rfl ?_
                      refine w_gf (np := 32) (v := eR v2) rfl rfl (hI.kd gA0 (by decide) (n := 69) rfl) (by rw [e3]; rfl) ?_
                      refine w_t (np := 33) (l2 := [some (eR a0), some (eI (0)), some (eI (8))]) (s2 := [eI (0), eR v2]) rfl rfl rfl ?_
                      refine w_t (np := 34) (l2 := [some (eR a0), some (eI (0)), some (eI (8))]) (s2 := [eI (8), eI (0), eR v2]) rfl rfl rfl ?_
                      refine w_t (np := 35) (l2 := [some (eR a0), some (eI (0)), some (eI (8))]) (s2 := [eI (8), eR v2]) rfl (b_iadd rfl) rfl ?_
                      refine w_cu (np := 38) (as := [eI (8)]) (l2 := [some (eI (8))]) (rest := [eR v2]) rfl rfl rfl (Nat.ble_eq.mp rfl) rfl rfl rfl rfl ?_
                      refine w_t (np := 1) (l2 := [some (eI (8))]) (s2 := [eI (8)]) rfl rfl rfl ?_
                      refine w_t (np := 3) (l2 := [some (eI (8))]) (s2 := [eI (10), eI (8)]) rfl rfl rfl ?_
                      refine w_t (np := 4) (l2 := [some (eI (8))]) (s2 := [eI (8)]) rfl rfl rfl ?_
                      refine w_t (np := 6) (l2 := [some (eI (8))]) (s2 := [eI (10), eI (8)]) rfl rfl rfl ?_
                      refine w_t (np := 7) (l2 := [some (eI (8))]) (s2 := [eI (18)]) rfl (b_iadd rfl) rfl ?_
                      refine w_t (np := 9) (l2 := [some (eI (8))]) (s2 := [eI (10), eI (18)]) rfl rfl rfl ?_
                      refine w_t (np := 10) (l2 := [some (eI (8))]) (s2 := [eI (8)]) rfl rfl rfl ?_
                      refine b_ri rfl rfl ?_
                      show ex_q (dt_fg L ρ) rc (d + 1, (327, 38, [some (eR a0), some (eI (0)), some (eI (8))], [eI (8), eR v2]), f :: F, μ)
                      refine j_b3 (np := 39) rfl rfl hI b4 (by decide) (n := 10) rfl rfl (lo := 0) (hi := 1) (fun _ => rfl) (by decide) (by decide) ?_
                      intro v42 e43 b44
                      refine b_ine (t1 := 48) (t2 := 42) rfl rfl rfl (ev_w_in (by omega) (by omega)) (fun g45 => ?_) (fun g45 => ?_)
                      · have b46 : 1 ≤ v42 ∧ v42 ≤ 1 := by omega
                        refine w_t (np := 49) (l2 := [some (eR a0), some (eI (0)), some (eI (8))]) (s2 := [eI (8)]) rfl rfl rfl ?_
                        exact b_ri rfl rfl (K (8) (by decide) (gG_e (gG_c (r := μ.1 v2) (d := 0) (show μ.1 v2 0 = 0 from (e7).trans (by omega)) (fun z9 => by have z8 := (show μ.1 v2 9 = v10 from e11); have z7 : μ.1 v2 9 = 0 := z9; omega) (gN_s (show μ.1 v2 1 = 0 from (e15).trans (by omega)) (gN_s (show μ.1 v2 2 = 0 from (e19).trans (by omega)) (gN_s (show μ.1 v2 3 = 0 from (e23).trans (by omega)) (gN_s (show μ.1 v2 4 = 0 from (e27).trans (by omega)) (gN_s (show μ.1 v2 5 = 0 from (e31).trans (by omega)) (gN_s (show μ.1 v2 6 = 0 from (e35).trans (by omega)) (gN_s (show μ.1 v2 7 = 0 from (e39).trans (by omega)) (gN_e (fun z9 => by have z8 := (show μ.1 v2 8 = v42 from e43); have z7 : μ.1 v2 8 = 0 := z9; omega) rfl))))))))) e3))
                      · have b46 : 0 ≤ v42 ∧ v42 ≤ 0 := by omega
                        refine w_t (np := 45) (l2 := [some (eR a0), some (eI (0)), some (eI (9))]) (s2 := []) rfl (b_iinc rfl rfl rfl) rfl ?_
                        refine w_go (t1 := 28) rfl rfl ?_
                        refine w_t (np := 29) (l2 := [some (eR a0), some (eI (0)), some (eI (9))]) (s2 := [eR a0]) rfl (s_an rfl (pos_g hI gA0 (by decide))) rfl ?_
                        refine w_gf (np := 32) (v := eR v2) rfl rfl (hI.kd gA0 (by decide) (n := 69) rfl) (by rw [e3]; rfl) ?_
                        refine w_t (np := 33) (l2 := [some (eR a0), some (eI (0)), some (eI (9))]) (s2 := [eI (0), eR v2]) rfl rfl rfl ?_
                        refine w_t (np := 34) (l2 := [some (eR a0), some (eI (0)), some (eI (9))]) (s2 := [eI (9), eI (0), eR v2]) rfl rfl rfl ?_
                        refine w_t (np := 35) (l2 := [some (eR a0), some (eI (0)), some (eI (9))]) (s2 := [eI (9), eR v2]) rfl (b_iadd rfl) rfl ?_
                        refine w_cu (np := 38) (as := [eI (9)]) (l2 := [some (eI (9))]) (rest := [eR v2]) rfl rfl rfl (Nat.ble_eq.mp rfl) rfl rfl rfl rfl ?_
                        refine w_t (np := 1) (l2 := [some (eI (9))]) (s2 := [eI (9)]) rfl rfl rfl ?_
                        refine w_t (np := 3) (l2 := [some (eI (9))]) (s2 := [eI (10), eI (9)]) rfl rfl rfl ?_
                        refine w_t (np := 4) (l2 := [some (eI (9))]) (s2 := [eI (9)]) rfl rfl rfl ?_
                        refine w_t (np := 6) (l2 := [some (eI (9))]) (s2 := [eI (10), eI (9)]) rfl rfl rfl ?_
                        refine w_t (np := 7) (l2 := [some (eI (9))]) (s2 := [eI (19)]) rfl (b_iadd rfl) rfl ?_
                        refine w_t (np := 9) (l2 := [some (eI (9))]) (s2 := [eI (10), eI (19)]) rfl rfl rfl ?_
                        refine w_t (np := 10) (l2 := [some (eI (9))]) (s2 := [eI (9)]) rfl rfl rfl ?_
                        refine b_ri rfl rfl ?_
                        show ex_q (dt_fg L ρ) rc (d + 1, (327, 38, [some (eR a0), some (eI (0)), some (eI (9))], [eI (9), eR v2]), f :: F, μ)
                        refine j_b3 (np := 39) rfl rfl hI b4 (by decide) (n := 10) rfl rfl (lo := 0) (hi := 1) (fun _ => rfl) (by decide) (by decide) ?_
                        intro v46 e47 b48
                        have e47 := e47.symm.trans e11
                        rw [e47]
                        refine b_ine (t1 := 48) (t2 := 42) rfl rfl rfl (ev_w_in (by omega) (by omega)) (fun g49 => ?_) (fun g49 => False.elim (by omega))
                        refine w_t (np := 49) (l2 := [some (eR a0), some (eI (0)), some (eI (9))]) (s2 := [eI (9)]) rfl rfl rfl ?_
                        exact b_ri rfl rfl (K (9) (by decide) (gG_e (gG_c (r := μ.1 v2) (d := 0) (show μ.1 v2 0 = 0 from (e7).trans (by omega)) (fun z9 => by have z8 := (show μ.1 v2 9 = v10 from e11); have z7 : μ.1 v2 9 = 0 := z9; omega) (gN_s (show μ.1 v2 1 = 0 from (e15).trans (by omega)) (gN_s (show μ.1 v2 2 = 0 from (e19).trans (by omega)) (gN_s (show μ.1 v2 3 = 0 from (e23).trans (by omega)) (gN_s (show μ.1 v2 4 = 0 from (e27).trans (by omega)) (gN_s (show μ.1 v2 5 = 0 from (e31).trans (by omega)) (gN_s (show μ.1 v2 6 = 0 from (e35).trans (by omega)) (gN_s (show μ.1 v2 7 = 0 from (e39).trans (by omega)) (gN_s (show μ.1 v2 8 = 0 from (e43).trans (by omega)) rfl))))))))) e3))
      · have b14 : 0 ≤ v10 ∧ v10 ≤ 0 := by omega
        refine w_t (np := 25) (l2 := [some (eR a0), some (eI (0)), none]) (s2 := [eI (0)]) rfl rfl rfl ?_
        exact b_ri rfl rfl (K (0) (by decide) (gG_e (gG_b (r := μ.1 v2) (d := 0) (show μ.1 v2 0 = 0 from (e7).trans (by omega)) (show μ.1 v2 9 = 0 from (e11).trans (by omega))) e3))
  · subst g1
    refine w_t (np := 1) (l2 := [some (eR a0), some (eI (1)), none]) (s2 := [eR a0]) rfl (s_an rfl (pos_g hI gA0 (by decide))) rfl ?_
    refine j_gr (np := 4) rfl rfl hI gA0 (by decide) (n := 69) rfl rfl rfl ?_
    intro v2 e3 b4 z5
    have b4 : g v2 = 85 := Nat.eq_of_beq_eq_true b4
    refine w_t (np := 5) (l2 := [some (eR a0), some (eI (1)), none]) (s2 := [eI (1), eR v2]) rfl rfl rfl ?_
    refine j_b3 (np := 6) rfl rfl hI b4 (by decide) (n := 10) rfl rfl (lo := 0) (hi := 1) (fun _ => rfl) (by decide) (by decide) ?_
    intro v6 e7 b8
    refine b_ine (t1 := 24) (t2 := 9) rfl rfl rfl (ev_w_in (by omega) (by omega)) (fun g9 => ?_) (fun g9 => ?_)
    · have b10 : 1 ≤ v6 ∧ v6 ≤ 1 := by omega
      refine w_t (np := 25) (l2 := [some (eR a0), some (eI (1)), none]) (s2 := [eI (0)]) rfl rfl rfl ?_
      exact b_ri rfl rfl (K (0) (by decide) (gG_e (gG_a (r := μ.1 v2) (d := 1) (fun z9 => by have z8 := (show μ.1 v2 1 = v6 from e7); have z7 : μ.1 v2 1 = 0 := z9; omega)) e3))
    · have b10 : 0 ≤ v6 ∧ v6 ≤ 0 := by omega
      refine w_t (np := 10) (l2 := [some (eR a0), some (eI (1)), none]) (s2 := [eR a0]) rfl (s_an rfl (pos_g hI gA0 (by decide))) rfl ?_
      refine w_gf (np := 13) (v := eR v2) rfl rfl (hI.kd gA0 (by decide) (n := 69) rfl) (by rw [e3]; rfl) ?_
      refine w_t (np := 14) (l2 := [some (eR a0), some (eI (1)), none]) (s2 := [eI (1), eR v2]) rfl rfl rfl ?_
      refine w_t (np := 16) (l2 := [some (eR a0), some (eI (1)), none]) (s2 := [eI (9), eI (1), eR v2]) rfl rfl rfl ?_
      refine w_t (np := 17) (l2 := [some (eR a0), some (eI (1)), none]) (s2 := [eI (10), eR v2]) rfl (b_iadd rfl) rfl ?_
      refine w_cu (np := 20) (as := [eI (10)]) (l2 := [some (eI (10))]) (rest := [eR v2]) rfl rfl rfl (Nat.ble_eq.mp rfl) rfl rfl rfl rfl ?_
      refine w_t (np := 1) (l2 := [some (eI (10))]) (s2 := [eI (10)]) rfl rfl rfl ?_
      refine w_t (np := 3) (l2 := [some (eI (10))]) (s2 := [eI (10), eI (10)]) rfl rfl rfl ?_
      refine w_t (np := 4) (l2 := [some (eI (10))]) (s2 := [eI (0)]) rfl rfl rfl ?_
      refine w_t (np := 6) (l2 := [some (eI (10))]) (s2 := [eI (10), eI (0)]) rfl rfl rfl ?_
      refine w_t (np := 7) (l2 := [some (eI (10))]) (s2 := [eI (10)]) rfl (b_iadd rfl) rfl ?_
      refine w_t (np := 9) (l2 := [some (eI (10))]) (s2 := [eI (10), eI (10)]) rfl rfl rfl ?_
      refine w_t (np := 10) (l2 := [some (eI (10))]) (s2 := [eI (0)]) rfl rfl rfl ?_
      refine b_ri rfl rfl ?_
      show ex_q (dt_fg L ρ) rc (d + 1, (327, 20, [some (eR a0), some (eI (1)), none], [eI (0), eR v2]), f :: F, μ)
      refine j_b3 (np := 21) rfl rfl hI b4 (by decide) (n := 10) rfl rfl (lo := 0) (hi := 1) (fun _ => rfl) (by decide) (by decide) ?_
      intro v10 e11 b12
      refine b_ine (t1 := 26) (t2 := 24) rfl rfl rfl (ev_w_in (by omega) (by omega)) (fun g13 => ?_) (fun g13 => ?_)
      · have b14 : 1 ≤ v10 ∧ v10 ≤ 1 := by omega
        refine w_t (np := 27) (l2 := [some (eR a0), some (eI (1)), none]) (s2 := [eI (1)]) rfl rfl rfl ?_
        refine w_t (np := 28) (l2 := [some (eR a0), some (eI (1)), some (eI (1))]) (s2 := []) rfl rfl rfl ?_
        refine w_t (np := 29) (l2 := [some (eR a0), some (eI (1)), some (eI (1))]) (s2 := [eR a0]) rfl (s_an rfl (pos_g hI gA0 (by decide))) rfl ?_
        refine w_gf (np := 32) (v := eR v2) rfl rfl (hI.kd gA0 (by decide) (n := 69) rfl) (by rw [e3]; rfl) ?_
        refine w_t (np := 33) (l2 := [some (eR a0), some (eI (1)), some (eI (1))]) (s2 := [eI (1), eR v2]) rfl rfl rfl ?_
        refine w_t (np := 34) (l2 := [some (eR a0), some (eI (1)), some (eI (1))]) (s2 := [eI (1), eI (1), eR v2]) rfl rfl rfl ?_
        refine w_t (np := 35) (l2 := [some (eR a0), some (eI (1)), some (eI (1))]) (s2 := [eI (2), eR v2]) rfl (b_iadd rfl) rfl ?_
        refine w_cu (np := 38) (as := [eI (2)]) (l2 := [some (eI (2))]) (rest := [eR v2]) rfl rfl rfl (Nat.ble_eq.mp rfl) rfl rfl rfl rfl ?_
        refine w_t (np := 1) (l2 := [some (eI (2))]) (s2 := [eI (2)]) rfl rfl rfl ?_
        refine w_t (np := 3) (l2 := [some (eI (2))]) (s2 := [eI (10), eI (2)]) rfl rfl rfl ?_
        refine w_t (np := 4) (l2 := [some (eI (2))]) (s2 := [eI (2)]) rfl rfl rfl ?_
        refine w_t (np := 6) (l2 := [some (eI (2))]) (s2 := [eI (10), eI (2)]) rfl rfl rfl ?_
        refine w_t (np := 7) (l2 := [some (eI (2))]) (s2 := [eI (12)]) rfl (b_iadd rfl) rfl ?_
        refine w_t (np := 9) (l2 := [some (eI (2))]) (s2 := [eI (10), eI (12)]) rfl rfl rfl ?_
        refine w_t (np := 10) (l2 := [some (eI (2))]) (s2 := [eI (2)]) rfl rfl rfl ?_
        refine b_ri rfl rfl ?_
        show ex_q (dt_fg L ρ) rc (d + 1, (327, 38, [some (eR a0), some (eI (1)), some (eI (1))], [eI (2), eR v2]), f :: F, μ)
        refine j_b3 (np := 39) rfl rfl hI b4 (by decide) (n := 10) rfl rfl (lo := 0) (hi := 1) (fun _ => rfl) (by decide) (by decide) ?_
        intro v14 e15 b16
        refine b_ine (t1 := 48) (t2 := 42) rfl rfl rfl (ev_w_in (by omega) (by omega)) (fun g17 => ?_) (fun g17 => ?_)
        · have b18 : 1 ≤ v14 ∧ v14 ≤ 1 := by omega
          refine w_t (np := 49) (l2 := [some (eR a0), some (eI (1)), some (eI (1))]) (s2 := [eI (1)]) rfl rfl rfl ?_
          exact b_ri rfl rfl (K (1) (by decide) (gG_e (gG_c (r := μ.1 v2) (d := 1) (show μ.1 v2 1 = 0 from (e7).trans (by omega)) (fun z9 => by have z8 := (show μ.1 v2 0 = v10 from e11); have z7 : μ.1 v2 0 = 0 := z9; omega) (gN_e (fun z9 => by have z8 := (show μ.1 v2 2 = v14 from e15); have z7 : μ.1 v2 2 = 0 := z9; omega) rfl)) e3))
        · have b18 : 0 ≤ v14 ∧ v14 ≤ 0 := by omega
          refine w_t (np := 45) (l2 := [some (eR a0), some (eI (1)), some (eI (2))]) (s2 := []) rfl (b_iinc rfl rfl rfl) rfl ?_
          refine w_go (t1 := 28) rfl rfl ?_
          refine w_t (np := 29) (l2 := [some (eR a0), some (eI (1)), some (eI (2))]) (s2 := [eR a0]) rfl (s_an rfl (pos_g hI gA0 (by decide))) rfl ?_
          refine w_gf (np := 32) (v := eR v2) rfl rfl (hI.kd gA0 (by decide) (n := 69) rfl) (by rw [e3]; rfl) ?_
          refine w_t (np := 33) (l2 := [some (eR a0), some (eI (1)), some (eI (2))]) (s2 := [eI (1), eR v2]) rfl rfl rfl ?_
          refine w_t (np := 34) (l2 := [some (eR a0), some (eI (1)), some (eI (2))]) (s2 := [eI (2), eI (1), eR v2]) rfl rfl rfl ?_
          refine w_t (np := 35) (l2 := [some (eR a0), some (eI (1)), some (eI (2))]) (s2 := [eI (3), eR v2]) rfl (b_iadd rfl) rfl ?_
          refine w_cu (np := 38) (as := [eI (3)]) (l2 := [some (eI (3))]) (rest := [eR v2]) rfl rfl rfl (Nat.ble_eq.mp rfl) rfl rfl rfl rfl ?_
          refine w_t (np := 1) (l2 := [some (eI (3))]) (s2 := [eI (3)]) rfl rfl rfl ?_
          refine w_t (np := 3) (l2 := [some (eI (3))]) (s2 := [eI (10), eI (3)]) rfl rfl rfl ?_
          refine w_t (np := 4) (l2 := [some (eI (3))]) (s2 := [eI (3)]) rfl rfl rfl ?_
          refine w_t (np := 6) (l2 := [some (eI (3))]) (s2 := [eI (10), eI (3)]) rfl rfl rfl ?_
          refine w_t (np := 7) (l2 := [some (eI (3))]) (s2 := [eI (13)]) rfl (b_iadd rfl) rfl ?_
          refine w_t (np := 9) (l2 := [some (eI (3))]) (s2 := [eI (10), eI (13)]) rfl rfl rfl ?_
          refine w_t (np := 10) (l2 := [some (eI (3))]) (s2 := [eI (3)]) rfl rfl rfl ?_
          refine b_ri rfl rfl ?_
          show ex_q (dt_fg L ρ) rc (d + 1, (327, 38, [some (eR a0), some (eI (1)), some (eI (2))], [eI (3), eR v2]), f :: F, μ)
          refine j_b3 (np := 39) rfl rfl hI b4 (by decide) (n := 10) rfl rfl (lo := 0) (hi := 1) (fun _ => rfl) (by decide) (by decide) ?_
          intro v18 e19 b20
          refine b_ine (t1 := 48) (t2 := 42) rfl rfl rfl (ev_w_in (by omega) (by omega)) (fun g21 => ?_) (fun g21 => ?_)
          · have b22 : 1 ≤ v18 ∧ v18 ≤ 1 := by omega
            refine w_t (np := 49) (l2 := [some (eR a0), some (eI (1)), some (eI (2))]) (s2 := [eI (2)]) rfl rfl rfl ?_
            exact b_ri rfl rfl (K (2) (by decide) (gG_e (gG_c (r := μ.1 v2) (d := 1) (show μ.1 v2 1 = 0 from (e7).trans (by omega)) (fun z9 => by have z8 := (show μ.1 v2 0 = v10 from e11); have z7 : μ.1 v2 0 = 0 := z9; omega) (gN_s (show μ.1 v2 2 = 0 from (e15).trans (by omega)) (gN_e (fun z9 => by have z8 := (show μ.1 v2 3 = v18 from e19); have z7 : μ.1 v2 3 = 0 := z9; omega) rfl))) e3))
          · have b22 : 0 ≤ v18 ∧ v18 ≤ 0 := by omega
            refine w_t (np := 45) (l2 := [some (eR a0), some (eI (1)), some (eI (3))]) (s2 := []) rfl (b_iinc rfl rfl rfl) rfl ?_
            refine w_go (t1 := 28) rfl rfl ?_
            refine w_t (np := 29) (l2 := [some (eR a0), some (eI (1)), some (eI (3))]) (s2 := [eR a0]) rfl (s_an rfl (pos_g hI gA0 (by decide))) rfl ?_
            refine w_gf (np := 32) (v := eR v2) rfl rfl (hI.kd gA0 (by decide) (n := 69) rfl) (by rw [e3]; rfl) ?_
            refine w_t (np := 33) (l2 := [some (eR a0), some (eI (1)), some (eI (3))]) (s2 := [eI (1), eR v2]) rfl rfl rfl ?_
            refine w_t (np := 34) (l2 := [some (eR a0), some (eI (1)), some (eI (3))]) (s2 := [eI (3), eI (1), eR v2]) rfl rfl rfl ?_
            refine w_t (np := 35) (l2 := [some (eR a0), some (eI (1)), some (eI (3))]) (s2 := [eI (4), eR v2]) rfl (b_iadd rfl) rfl ?_
            refine w_cu (np := 38) (as := [eI (4)]) (l2 := [some (eI (4))]) (rest := [eR v2]) rfl rfl rfl (Nat.ble_eq.mp rfl) rfl rfl rfl rfl ?_
            refine w_t (np := 1) (l2 := [some (eI (4))]) (s2 := [eI (4)]) rfl rfl rfl ?_
            refine w_t (np := 3) (l2 := [some (eI (4))]) (s2 := [eI (10), eI (4)]) rfl rfl rfl ?_
            refine w_t (np := 4) (l2 := [some (eI (4))]) (s2 := [eI (4)]) rfl rfl rfl ?_
            refine w_t (np := 6) (l2 := [some (eI (4))]) (s2 := [eI (10), eI (4)]) rfl rfl rfl ?_
            refine w_t (np := 7) (l2 := [some (eI (4))]) (s2 := [eI (14)]) rfl (b_iadd rfl) rfl ?_
            refine w_t (np := 9) (l2 := [some (eI (4))]) (s2 := [eI (10), eI (14)]) rfl rfl rfl ?_
            refine w_t (np := 10) (l2 := [some (eI (4))]) (s2 := [eI (4)]) rfl rfl rfl ?_
            refine b_ri rfl rfl ?_
            show ex_q (dt_fg L ρ) rc (d + 1, (327, 38, [some (eR a0), some (eI (1)), some (eI (3))], [eI (4), eR v2]), f :: F, μ)
            refine j_b3 (np := 39) rfl rfl hI b4 (by decide) (n := 10) rfl rfl (lo := 0) (hi := 1) (fun _ => rfl) (by decide) (by decide) ?_
            intro v22 e23 b24
            refine b_ine (t1 := 48) (t2 := 42) rfl rfl rfl (ev_w_in (by omega) (by omega)) (fun g25 => ?_) (fun g25 => ?_)
            · have b26 : 1 ≤ v22 ∧ v22 ≤ 1 := by omega
              refine w_t (np := 49) (l2 := [some (eR a0), some (eI (1)), some (eI (3))]) (s2 := [eI (3)]) rfl rfl rfl ?_
              exact b_ri rfl rfl (K (3) (by decide) (gG_e (gG_c (r := μ.1 v2) (d := 1) (show μ.1 v2 1 = 0 from (e7).trans (by omega)) (fun z9 => by have z8 := (show μ.1 v2 0 = v10 from e11); have z7 : μ.1 v2 0 = 0 := z9; omega) (gN_s (show μ.1 v2 2 = 0 from (e15).trans (by omega)) (gN_s (show μ.1 v2 3 = 0 from (e19).trans (by omega)) (gN_e (fun z9 => by have z8 := (show μ.1 v2 4 = v22 from e23); have z7 : μ.1 v2 4 = 0 := z9; omega) rfl)))) e3))
            · have b26 : 0 ≤ v22 ∧ v22 ≤ 0 := by omega
              refine w_t (np := 45) (l2 := [some (eR a0), some (eI (1)), some (eI (4))]) (s2 := []) rfl (b_iinc rfl rfl rfl) rfl ?_
              refine w_go (t1 := 28) rfl rfl ?_
              refine w_t (np := 29) (l2 := [some (eR a0), some (eI (1)), some (eI (4))]) (s2 := [eR a0]) rfl (s_an rfl (pos_g hI gA0 (by decide))) rfl ?_
              refine w_gf (np := 32) (v := eR v2) rfl rfl (hI.kd gA0 (by decide) (n := 69) rfl) (by rw [e3]; rfl) ?_
              refine w_t (np := 33) (l2 := [some (eR a0), some (eI (1)), some (eI (4))]) (s2 := [eI (1), eR v2]) rfl rfl rfl ?_
              refine w_t (np := 34) (l2 := [some (eR a0), some (eI (1)), some (eI (4))]) (s2 := [eI (4), eI (1), eR v2]) rfl rfl rfl ?_
              refine w_t (np := 35) (l2 := [some (eR a0), some (eI (1)), some (eI (4))]) (s2 := [eI (5), eR v2]) rfl (b_iadd rfl) rfl ?_
              refine w_cu (np := 38) (as := [eI (5)]) (l2 := [some (eI (5))]) (rest := [eR v2]) rfl rfl rfl (Nat.ble_eq.mp rfl) rfl rfl rfl rfl ?_
              refine w_t (np := 1) (l2 := [some (eI (5))]) (s2 := [eI (5)]) rfl rfl rfl ?_
              refine w_t (np := 3) (l2 := [some (eI (5))]) (s2 := [eI (10), eI (5)]) rfl rfl rfl ?_
              refine w_t (np := 4) (l2 := [some (eI (5))]) (s2 := [eI (5)]) rfl rfl rfl ?_
              refine w_t (np := 6) (l2 := [some (eI (5))]) (s2 := [eI (10), eI (5)]) rfl rfl rfl ?_
              refine w_t (np := 7) (l2 := [some (eI (5))]) (s2 := [eI (15)]) rfl (b_iadd rfl) rfl ?_
              refine w_t (np := 9) (l2 := [some (eI (5))]) (s2 := [eI (10), eI (15)]) rfl rfl rfl ?_
              refine w_t (np := 10) (l2 := [some (eI (5))]) (s2 := [eI (5)]) rfl rfl rfl ?_
              refine b_ri rfl rfl ?_
              show ex_q (dt_fg L ρ) rc (d + 1, (327, 38, [some (eR a0), some (eI (1)), some (eI (4))], [eI (5), eR v2]), f :: F, μ)
              refine j_b3 (np := 39) rfl rfl hI b4 (by decide) (n := 10) rfl rfl (lo := 0) (hi := 1) (fun _ => rfl) (by decide) (by decide) ?_
              intro v26 e27 b28
              refine b_ine (t1 := 48) (t2 := 42) rfl rfl rfl (ev_w_in (by omega) (by omega)) (fun g29 => ?_) (fun g29 => ?_)
              · have b30 : 1 ≤ v26 ∧ v26 ≤ 1 := by omega
                refine w_t (np := 49) (l2 := [some (eR a0), some (eI (1)), some (eI (4))]) (s2 := [eI (4)]) rfl rfl rfl ?_
                exact b_ri rfl rfl (K (4) (by decide) (gG_e (gG_c (r := μ.1 v2) (d := 1) (show μ.1 v2 1 = 0 from (e7).trans (by omega)) (fun z9 => by have z8 := (show μ.1 v2 0 = v10 from e11); have z7 : μ.1 v2 0 = 0 := z9; omega) (gN_s (show μ.1 v2 2 = 0 from (e15).trans (by omega)) (gN_s (show μ.1 v2 3 = 0 from (e19).trans (by omega)) (gN_s (show μ.1 v2 4 = 0 from (e23).trans (by omega)) (gN_e (fun z9 => by have z8 := (show μ.1 v2 5 = v26 from e27); have z7 : μ.1 v2 5 = 0 := z9; omega) rfl))))) e3))
              · have b30 : 0 ≤ v26 ∧ v26 ≤ 0 := by omega
                refine w_t (np := 45) (l2 := [some (eR a0), some (eI (1)), some (eI (5))]) (s2 := []) rfl (b_iinc rfl rfl rfl) rfl ?_
                refine w_go (t1 := 28) rfl rfl ?_
                refine w_t (np := 29) (l2 := [some (eR a0), some (eI (1)), some (eI (5))]) (s2 := [eR a0]) rfl (s_an rfl (pos_g hI gA0 (by decide))) rfl ?_
                refine w_gf (np := 32) (v := eR v2) rfl rfl (hI.kd gA0 (by decide) (n := 69) rfl) (by rw [e3]; rfl) ?_
                refine w_t (np := 33) (l2 := [some (eR a0), some (eI (1)), some (eI (5))]) (s2 := [eI (1), eR v2]) rfl rfl rfl ?_
                refine w_t (np := 34) (l2 := [some (eR a0), some (eI (1)), some (eI (5))]) (s2 := [eI (5), eI (1), eR v2]) rfl rfl rfl ?_
                refine w_t (np := 35) (l2 := [some (eR a0), some (eI (1)), some (eI (5))]) (s2 := [eI (6), eR v2]) rfl (b_iadd rfl) rfl ?_
                refine w_cu (np := 38) (as := [eI (6)]) (l2 := [some (eI (6))]) (rest := [eR v2]) rfl rfl rfl (Nat.ble_eq.mp rfl) rfl rfl rfl rfl ?_
                refine w_t (np := 1) (l2 := [some (eI (6))]) (s2 := [eI (6)]) rfl rfl rfl ?_
                refine w_t (np := 3) (l2 := [some (eI (6))]) (s2 := [eI (10), eI (6)]) rfl rfl rfl ?_
                refine w_t (np := 4) (l2 := [some (eI (6))]) (s2 := [eI (6)]) rfl rfl rfl ?_
                refine w_t (np := 6) (l2 := [some (eI (6))]) (s2 := [eI (10), eI (6)]) rfl rfl rfl ?_
                refine w_t (np := 7) (l2 := [some (eI (6))]) (s2 := [eI (16)]) rfl (b_iadd rfl) rfl ?_
                refine w_t (np := 9) (l2 := [some (eI (6))]) (s2 := [eI (10), eI (16)]) rfl rfl rfl ?_
                refine w_t (np := 10) (l2 := [some (eI (6))]) (s2 := [eI (6)]) rfl rfl rfl ?_
                refine b_ri rfl rfl ?_
                show ex_q (dt_fg L ρ) rc (d + 1, (327, 38, [some (eR a0), some (eI (1)), some (eI (5))], [eI (6), eR v2]), f :: F, μ)
                refine j_b3 (np := 39) rfl rfl hI b4 (by decide) (n := 10) rfl rfl (lo := 0) (hi := 1) (fun _ => rfl) (by decide) (by decide) ?_
                intro v30 e31 b32
                refine b_ine (t1 := 48) (t2 := 42) rfl rfl rfl (ev_w_in (by omega) (by omega)) (fun g33 => ?_) (fun g33 => ?_)
                · have b34 : 1 ≤ v30 ∧ v30 ≤ 1 := by omega
                  refine w_t (np := 49) (l2 := [some (eR a0), some (eI (1)), some (eI (5))]) (s2 := [eI (5)]) rfl rfl rfl ?_
                  exact b_ri rfl rfl (K (5) (by decide) (gG_e (gG_c (r := μ.1 v2) (d := 1) (show μ.1 v2 1 = 0 from (e7).trans (by omega)) (fun z9 => by have z8 := (show μ.1 v2 0 = v10 from e11); have z7 : μ.1 v2 0 = 0 := z9; omega) (gN_s (show μ.1 v2 2 = 0 from (e15).trans (by omega)) (gN_s (show μ.1 v2 3 = 0 from (e19).trans (by omega)) (gN_s (show μ.1 v2 4 = 0 from (e23).trans (by omega)) (gN_s (show μ.1 v2 5 = 0 from (e27).trans (by omega)) (gN_e (fun z9 => by have z8 := (show μ.1 v2 6 = v30 from e31); have z7 : μ.1 v2 6 = 0 := z9; omega) rfl)))))) e3))
                · have b34 : 0 ≤ v30 ∧ v30 ≤ 0 := by omega
                  refine w_t (np := 45) (l2 := [some (eR a0), some (eI (1)), some (eI (6))]) (s2 := []) rfl (b_iinc rfl rfl rfl) rfl ?_
                  refine w_go (t1 := 28) rfl rfl ?_
                  refine w_t (np := 29) (l2 := [some (eR a0), some (eI (1)), some (eI (6))]) (s2 := [eR a0]) rfl (s_an rfl (pos_g hI gA0 (by decide))) rfl ?_
                  refine w_gf (np := 32) (v := eR v2) rfl rfl (hI.kd gA0 (by decide) (n := 69) rfl) (by rw [e3]; rfl) ?_
                  refine w_t (np := 33) (l2 := [some (eR a0), some (eI (1)), some (eI (6))]) (s2 := [eI (1), eR v2]) rfl rfl rfl ?_
                  refine w_t (np := 34) (l2 := [some (eR a0), some (eI (1)), some (eI (6))]) (s2 := [eI (6), eI (1), eR v2]) rfl rfl rfl ?_
                  refine w_t (np := 35) (l2 := [some (eR a0), some (eI (1)), some (eI (6))]) (s2 := [eI (7), eR v2]) rfl (b_iadd rfl) rfl ?_
                  refine w_cu (np := 38) (as := [eI (7)]) (l2 := [some (eI (7))]) (rest := [eR v2]) rfl rfl rfl (Nat.ble_eq.mp rfl) rfl rfl rfl rfl ?_
                  refine w_t (np := 1) (l2 := [some (eI (7))]) (s2 := [eI (7)]) rfl rfl rfl ?_
                  refine w_t (np := 3) (l2 := [some (eI (7))]) (s2 := [eI (10), eI (7)]) rfl rfl rfl ?_
                  refine w_t (np := 4) (l2 := [some (eI (7))]) (s2 := [eI (7)]) rfl rfl rfl ?_
                  refine w_t (np := 6) (l2 := [some (eI (7))]) (s2 := [eI (10), eI (7)]) rfl rfl rfl ?_
                  refine w_t (np := 7) (l2 := [some (eI (7))]) (s2 := [eI (17)]) rfl (b_iadd rfl) rfl ?_
                  refine w_t (np := 9) (l2 := [some (eI (7))]) (s2 := [eI (10), eI (17)]) rfl rfl rfl ?_
                  refine w_t (np := 10) (l2 := [some (eI (7))]) (s2 := [eI (7)]) rfl rfl rfl ?_
                  refine b_ri rfl rfl ?_
                  show ex_q (dt_fg L ρ) rc (d + 1, (327, 38, [some (eR a0), some (eI (1)), some (eI (6))], [eI (7), eR v2]), f :: F, μ)
                  refine j_b3 (np := 39) rfl rfl hI b4 (by decide) (n := 10) rfl rfl (lo := 0) (hi := 1) (fun _ => rfl) (by decide) (by decide) ?_
                  intro v34 e35 b36
                  refine b_ine (t1 := 48) (t2 := 42) rfl rfl rfl (ev_w_in (by omega) (by omega)) (fun g37 => ?_) (fun g37 => ?_)
                  · have b38 : 1 ≤ v34 ∧ v34 ≤ 1 := by omega
                    refine w_t (np := 49) (l2 := [some (eR a0), some (eI (1)), some (eI (6))]) (s2 := [eI (6)]) rfl rfl rfl ?_
                    exact b_ri rfl rfl (K (6) (by decide) (gG_e (gG_c (r := μ.1 v2) (d := 1) (show μ.1 v2 1 = 0 from (e7).trans (by omega)) (fun z9 => by have z8 := (show μ.1 v2 0 = v10 from e11); have z7 : μ.1 v2 0 = 0 := z9; omega) (gN_s (show μ.1 v2 2 = 0 from (e15).trans (by omega)) (gN_s (show μ.1 v2 3 = 0 from (e19).trans (by omega)) (gN_s (show μ.1 v2 4 = 0 from (e23).trans (by omega)) (gN_s (show μ.1 v2 5 = 0 from (e27).trans (by omega)) (gN_s (show μ.1 v2 6 = 0 from (e31).trans (by omega)) (gN_e (fun z9 => by have z8 := (show μ.1 v2 7 = v34 from e35); have z7 : μ.1 v2 7 = 0 := z9; omega) rfl))))))) e3))
                  · have b38 : 0 ≤ v34 ∧ v34 ≤ 0 := by omega
                    refine w_t (np := 45) (l2 := [some (eR a0), some (eI (1)), some (eI (7))]) (s2 := []) rfl (b_iinc rfl rfl rfl) rfl ?_
                    refine w_go (t1 := 28) rfl rfl ?_
                    refine w_t (np := 29) (l2 := [some (eR a0), some (eI (1)), some (eI (7))]) (s2 := [eR a0]) rfl (s_an rfl (pos_g hI gA0 (by decide))) rfl ?_
                    refine w_gf (np := 32) (v := eR v2) rfl rfl (hI.kd gA0 (by decide) (n := 69) rfl) (by rw [e3]; rfl) ?_
                    refine w_t (np := 33) (l2 := [some (eR a0), some (eI (1)), some (eI (7))]) (s2 := [eI (1), eR v2]) rfl rfl rfl ?_
                    refine w_t (np := 34) (l2 := [some (eR a0), some (eI (1)), some (eI (7))]) (s2 := [eI (7), eI (1), eR v2]) rfl rfl rfl ?_
                    refine w_t (np := 35) (l2 := [some (eR a0), some (eI (1)), some (eI (7))]) (s2 := [eI (8), eR v2]) rfl (b_iadd rfl) rfl ?_
                    refine w_cu (np := 38) (as := [eI (8)]) (l2 := [some (eI (8))]) (rest := [eR v2]) rfl rfl rfl (Nat.ble_eq.mp rfl) rfl rfl rfl rfl ?_
                    refine w_t (np := 1) (l2 := [some (eI (8))]) (s2 := [eI (8)]) rfl rfl rfl ?_
                    refine w_t (np := 3) (l2 := [some (eI (8))]) (s2 := [eI (10), eI (8)]) rfl rfl rfl ?_
                    refine w_t (np := 4) (l2 := [some (eI (8))]) (s2 := [eI (8)]) rfl rfl rfl ?_
                    refine w_t (np := 6) (l2 := [some (eI (8))]) (s2 := [eI (10), eI (8)]) rfl rfl rfl ?_
                    refine w_t (np := 7) (l2 := [some (eI (8))]) (s2 := [eI (18)]) rfl (b_iadd rfl) rfl ?_
                    refine w_t (np := 9) (l2 := [some (eI (8))]) (s2 := [eI (10), eI (18)]) rfl rfl rfl ?_
                    refine w_t (np := 10) (l2 := [some (eI (8))]) (s2 := [eI (8)]) rfl rfl rfl ?_
                    refine b_ri rfl rfl ?_
                    show ex_q (dt_fg L ρ) rc (d + 1, (327, 38, [some (eR a0), some (eI (1)), some (eI (7))], [eI (8), eR v2]), f :: F, μ)
                    refine j_b3 (np := 39) rfl rfl hI b4 (by decide) (n := 10) rfl rfl (lo := 0) (hi := 1) (fun _ => rfl) (by decide) (by decide) ?_
                    intro v38 e39 b40
                    refine b_ine (t1 := 48) (t2 := 42) rfl rfl rfl (ev_w_in (by omega) (by omega)) (fun g41 => ?_) (fun g41 => ?_)
                    · have b42 : 1 ≤ v38 ∧ v38 ≤ 1 := by omega
                      refine w_t (np := 49) (l2 := [some (eR a0), some (eI (1)), some (eI (7))]) (s2 := [eI (7)]) rfl rfl rfl ?_
                      exact b_ri rfl rfl (K (7) (by decide) (gG_e (gG_c (r := μ.1 v2) (d := 1) (show μ.1 v2 1 = 0 from (e7).trans (by omega)) (fun z9 => by have z8 := (show μ.1 v2 0 = v10 from e11); have z7 : μ.1 v2 0 = 0 := z9; omega) (gN_s (show μ.1 v2 2 = 0 from (e15).trans (by omega)) (gN_s (show μ.1 v2 3 = 0 from (e19).trans (by omega)) (gN_s (show μ.1 v2 4 = 0 from (e23).trans (by omega)) (gN_s (show μ.1 v2 5 = 0 from (e27).trans (by omega)) (gN_s (show μ.1 v2 6 = 0 from (e31).trans (by omega)) (gN_s (show μ.1 v2 7 = 0 from (e35).trans (by omega)) (gN_e (fun z9 => by have z8 := (show μ.1 v2 8 = v38 from e39); have z7 : μ.1 v2 8 = 0 := z9; omega) rfl)))))))) e3))
                    · have b42 : 0 ≤ v38 ∧ v38 ≤ 0 := by omega
                      refine w_t (np := 45) (l2 := [some (eR a0), some (eI (1)), some (eI (8))]) (s2 := []) rfl (b_iinc rfl rfl rfl) rfl ?_
                      refine w_go (t1 := 28) rfl rfl ?_
                      refine w_t (np := 29) (l2 := [some (eR a0), some (eI (1)), some (eI (8))]) (s2 := [eR a0]) rfl (s_an rfl (pos_g hI gA0 (by decide))) rfl ?_
                      refine w_gf (np := 32) (v := eR v2) rfl rfl (hI.kd gA0 (by decide) (n := 69) rfl) (by rw [e3]; rfl) ?_
                      refine w_t (np := 33) (l2 := [some (eR a0), some (eI (1)), some (eI (8))]) (s2 := [eI (1), eR v2]) rfl rfl rfl ?_
                      refine w_t (np := 34) (l2 := [some (eR a0), some (eI (1)), some (eI (8))]) (s2 := [eI (8), eI (1), eR v2]) rfl rfl rfl ?_
                      refine w_t (np := 35) (l2 := [some (eR a0), some (eI (1)), some (eI (8))]) (s2 := [eI (9), eR v2]) rfl (b_iadd rfl) rfl ?_
                      refine w_cu (np := 38) (as := [eI (9)]) (l2 := [some (eI (9))]) (rest := [eR v2]) rfl rfl rfl (Nat.ble_eq.mp rfl) rfl rfl rfl rfl ?_
                      refine w_t (np := 1) (l2 := [some (eI (9))]) (s2 := [eI (9)]) rfl rfl rfl ?_
                      refine w_t (np := 3) (l2 := [some (eI (9))]) (s2 := [eI (10), eI (9)]) rfl rfl rfl ?_
                      refine w_t (np := 4) (l2 := [some (eI (9))]) (s2 := [eI (9)]) rfl rfl rfl ?_
                      refine w_t (np := 6) (l2 := [some (eI (9))]) (s2 := [eI (10), eI (9)]) rfl rfl rfl ?_
                      refine w_t (np := 7) (l2 := [some (eI (9))]) (s2 := [eI (19)]) rfl (b_iadd rfl) rfl ?_
                      refine w_t (np := 9) (l2 := [some (eI (9))]) (s2 := [eI (10), eI (19)]) rfl rfl rfl ?_
                      refine w_t (np := 10) (l2 := [some (eI (9))]) (s2 := [eI (9)]) rfl rfl rfl ?_
                      refine b_ri rfl rfl ?_
                      show ex_q (dt_fg L ρ) rc (d + 1, (327, 38, [some (eR a0), some (eI (1)), some (eI (8))], [eI (9), eR v2]), f :: F, μ)
                      refine j_b3 (np := 39) rfl rfl hI b4 (by decide) (n := 10) rfl rfl (lo := 0) (hi := 1) (fun _ => rfl) (by decide) (by decide) ?_
                      intro v42 e43 b44
                      refine b_ine (t1 := 48) (t2 := 42) rfl rfl rfl (ev_w_in (by omega) (by omega)) (fun g45 => ?_) (fun g45 => ?_)
                      · have b46 : 1 ≤ v42 ∧ v42 ≤ 1 := by omega
                        refine w_t (np := 49) (l2 := [some (eR a0), some (eI (1)), some (eI (8))]) (s2 := [eI (8)]) rfl rfl rfl ?_
                        exact b_ri rfl rfl (K (8) (by decide) (gG_e (gG_c (r := μ.1 v2) (d := 1) (show μ.1 v2 1 = 0 from (e7).trans (by omega)) (fun z9 => by have z8 := (show μ.1 v2 0 = v10 from e11); have z7 : μ.1 v2 0 = 0 := z9; omega) (gN_s (show μ.1 v2 2 = 0 from (e15).trans (by omega)) (gN_s (show μ.1 v2 3 = 0 from (e19).trans (by omega)) (gN_s (show μ.1 v2 4 = 0 from (e23).trans (by omega)) (gN_s (show μ.1 v2 5 = 0 from (e27).trans (by omega)) (gN_s (show μ.1 v2 6 = 0 from (e31).trans (by omega)) (gN_s (show μ.1 v2 7 = 0 from (e35).trans (by omega)) (gN_s (show μ.1 v2 8 = 0 from (e39).trans (by omega)) (gN_e (fun z9 => by have z8 := (show μ.1 v2 9 = v42 from e43); have z7 : μ.1 v2 9 = 0 := z9; omega) rfl))))))))) e3))
                      · have b46 : 0 ≤ v42 ∧ v42 ≤ 0 := by omega
                        refine w_t (np := 45) (l2 := [some (eR a0), some (eI (1)), some (eI (9))]) (s2 := []) rfl (b_iinc rfl rfl rfl) rfl ?_
                        refine w_go (t1 := 28) rfl rfl ?_
                        refine w_t (np := 29) (l2 := [some (eR a0), some (eI (1)), some (eI (9))]) (s2 := [eR a0]) rfl (s_an rfl (pos_g hI gA0 (by decide))) rfl ?_
                        refine w_gf (np := 32) (v := eR v2) rfl rfl (hI.kd gA0 (by decide) (n := 69) rfl) (by rw [e3]; rfl) ?_
                        refine w_t (np := 33) (l2 := [some (eR a0), some (eI (1)), some (eI (9))]) (s2 := [eI (1), eR v2]) rfl rfl rfl ?_
                        refine w_t (np := 34) (l2 := [some (eR a0), some (eI (1)), some (eI (9))]) (s2 := [eI (9), eI (1), eR v2]) rfl rfl rfl ?_
                        refine w_t (np := 35) (l2 := [some (eR a0), some (eI (1)), some (eI (9))]) (s2 := [eI (10), eR v2]) rfl (b_iadd rfl) rfl ?_
                        refine w_cu (np := 38) (as := [eI (10)]) (l2 := [some (eI (10))]) (rest := [eR v2]) rfl rfl rfl (Nat.ble_eq.mp rfl) rfl rfl rfl rfl ?_
                        refine w_t (np := 1) (l2 := [some (eI (10))]) (s2 := [eI (10)]) rfl rfl rfl ?_
                        refine w_t (np := 3) (l2 := [some (eI (10))]) (s2 := [eI (10), eI (10)]) rfl rfl rfl ?_
                        refine w_t (np := 4) (l2 := [some (eI (10))]) (s2 := [eI (0)]) rfl rfl rfl ?_
                        refine w_t (np := 6) (l2 := [some (eI (10))]) (s2 := [eI (10), eI (0)]) rfl rfl rfl ?_
                        refine w_t (np := 7) (l2 := [some (eI (10))]) (s2 := [eI (10)]) rfl (b_iadd rfl) rfl ?_
                        refine w_t (np := 9) (l2 := [some (eI (10))]) (s2 := [eI (10), eI (10)]) rfl rfl rfl ?_
                        refine w_t (np := 10) (l2 := [some (eI (10))]) (s2 := [eI (0)]) rfl rfl rfl ?_
                        refine b_ri rfl rfl ?_
                        show ex_q (dt_fg L ρ) rc (d + 1, (327, 38, [some (eR a0), some (eI (1)), some (eI (9))], [eI (0), eR v2]), f :: F, μ)
                        refine j_b3 (np := 39) rfl rfl hI b4 (by decide) (n := 10) rfl rfl (lo := 0) (hi := 1) (fun _ => rfl) (by decide) (by decide) ?_
                        intro v46 e47 b48
                        have e47 := e47.symm.trans e11
                        rw [e47]
                        refine b_ine (t1 := 48) (t2 := 42) rfl rfl rfl (ev_w_in (by omega) (by omega)) (fun g49 => ?_) (fun g49 => False.elim (by omega))
                        refine w_t (np := 49) (l2 := [some (eR a0), some (eI (1)), some (eI (9))]) (s2 := [eI (9)]) rfl rfl rfl ?_
                        exact b_ri rfl rfl (K (9) (by decide) (gG_e (gG_c (r := μ.1 v2) (d := 1) (show μ.1 v2 1 = 0 from (e7).trans (by omega)) (fun z9 => by have z8 := (show μ.1 v2 0 = v10 from e11); have z7 : μ.1 v2 0 = 0 := z9; omega) (gN_s (show μ.1 v2 2 = 0 from (e15).trans (by omega)) (gN_s (show μ.1 v2 3 = 0 from (e19).trans (by omega)) (gN_s (show μ.1 v2 4 = 0 from (e23).trans (by omega)) (gN_s (show μ.1 v2 5 = 0 from (e27).trans (by omega)) (gN_s (show μ.1 v2 6 = 0 from (e31).trans (by omega)) (gN_s (show μ.1 v2 7 = 0 from (e35).trans (by omega)) (gN_s (show μ.1 v2 8 = 0 from (e39).trans (by omega)) (gN_s (show μ.1 v2 9 = 0 from (e43).trans (by omega)) rfl))))))))) e3))
      · have b14 : 0 ≤ v10 ∧ v10 ≤ 0 := by omega
        refine w_t (np := 25) (l2 := [some (eR a0), some (eI (1)), none]) (s2 := [eI (0)]) rfl rfl rfl ?_
        exact b_ri rfl rfl (K (0) (by decide) (gG_e (gG_b (r := μ.1 v2) (d := 1) (show μ.1 v2 1 = 0 from (e7).trans (by omega)) (show μ.1 v2 0 = 0 from (e11).trans (by omega))) e3))
  · subst g1
    refine w_t (np := 1) (l2 := [some (eR a0), some (eI (2)), none]) (s2 := [eR a0]) rfl (s_an rfl (pos_g hI gA0 (by decide))) rfl ?_
    refine j_gr (np := 4) rfl rfl hI gA0 (by decide) (n := 69) rfl rfl rfl ?_
    intro v2 e3 b4 z5
    have b4 : g v2 = 85 := Nat.eq_of_beq_eq_true b4
    refine w_t (np := 5) (l2 := [some (eR a0), some (eI (2)), none]) (s2 := [eI (2), eR v2]) rfl rfl rfl ?_
    refine j_b3 (np := 6) rfl rfl hI b4 (by decide) (n := 10) rfl rfl (lo := 0) (hi := 1) (fun _ => rfl) (by decide) (by decide) ?_
    intro v6 e7 b8
    refine b_ine (t1 := 24) (t2 := 9) rfl rfl rfl (ev_w_in (by omega) (by omega)) (fun g9 => ?_) (fun g9 => ?_)
    · have b10 : 1 ≤ v6 ∧ v6 ≤ 1 := by omega
      refine w_t (np := 25) (l2 := [some (eR a0), some (eI (2)), none]) (s2 := [eI (0)]) rfl rfl rfl ?_
      exact b_ri rfl rfl (K (0) (by decide) (gG_e (gG_a (r := μ.1 v2) (d := 2) (fun z9 => by have z8 := (show μ.1 v2 2 = v6 from e7); have z7 : μ.1 v2 2 = 0 := z9; omega)) e3))
    · have b10 : 0 ≤ v6 ∧ v6 ≤ 0 := by omega
      refine w_t (np := 10) (l2 := [some (eR a0), some (eI (2)), none]) (s2 := [eR a0]) rfl (s_an rfl (pos_g hI gA0 (by decide))) rfl ?_
      refine w_gf (np := 13) (v := eR v2) rfl rfl (hI.kd gA0 (by decide) (n := 69) rfl) (by rw [e3]; rfl) ?_
      refine w_t (np := 14) (l2 := [some (eR a0), some (eI (2)), none]) (s2 := [eI (2), eR v2]) rfl rfl rfl ?_
      refine w_t (np := 16) (l2 := [some (eR a0), some (eI (2)), none]) (s2 := [eI (9), eI (2), eR v2]) rfl rfl rfl ?_
      refine w_t (np := 17) (l2 := [some (eR a0), some (eI (2)), none]) (s2 := [eI (11), eR v2]) rfl (b_iadd rfl) rfl ?_
      refine w_cu (np := 20) (as := [eI (11)]) (l2 := [some (eI (11))]) (rest := [eR v2]) rfl rfl rfl (Nat.ble_eq.mp rfl) rfl rfl rfl rfl ?_
      refine w_t (np := 1) (l2 := [some (eI (11))]) (s2 := [eI (11)]) rfl rfl rfl ?_
      refine w_t (np := 3) (l2 := [some (eI (11))]) (s2 := [eI (10), eI (11)]) rfl rfl rfl ?_
      refine w_t (np := 4) (l2 := [some (eI (11))]) (s2 := [eI (1)]) rfl rfl rfl ?_
      refine w_t (np := 6) (l2 := [some (eI (11))]) (s2 := [eI (10), eI (1)]) rfl rfl rfl ?_
      refine w_t (np := 7) (l2 := [some (eI (11))]) (s2 := [eI (11)]) rfl (b_iadd rfl) rfl ?_
      refine w_t (np := 9) (l2 := [some (eI (11))]) (s2 := [eI (10), eI (11)]) rfl rfl rfl ?_
      refine w_t (np := 10) (l2 := [some (eI (11))]) (s2 := [eI (1)]) rfl rfl rfl ?_
      refine b_ri rfl rfl ?_
      show ex_q (dt_fg L ρ) rc (d + 1, (327, 20, [some (eR a0), some (eI (2)), none], [eI (1), eR v2]), f :: F, μ)
      refine j_b3 (np := 21) rfl rfl hI b4 (by decide) (n := 10) rfl rfl (lo := 0) (hi := 1) (fun _ => rfl) (by decide) (by decide) ?_
      intro v10 e11 b12
      refine b_ine (t1 := 26) (t2 := 24) rfl rfl rfl (ev_w_in (by omega) (by omega)) (fun g13 => ?_) (fun g13 => ?_)
      · have b14 : 1 ≤ v10 ∧ v10 ≤ 1 := by omega
        refine w_t (np := 27) (l2 := [some (eR a0), some (eI (2)), none]) (s2 := [eI (1)]) rfl rfl rfl ?_
        refine w_t (np := 28) (l2 := [some (eR a0), some (eI (2)), some (eI (1))]) (s2 := []) rfl rfl rfl ?_
        refine w_t (np := 29) (l2 := [some (eR a0), some (eI (2)), some (eI (1))]) (s2 := [eR a0]) rfl (s_an rfl (pos_g hI gA0 (by decide))) rfl ?_
        refine w_gf (np := 32) (v := eR v2) rfl rfl (hI.kd gA0 (by decide) (n := 69) rfl) (by rw [e3]; rfl) ?_
        refine w_t (np := 33) (l2 := [some (eR a0), some (eI (2)), some (eI (1))]) (s2 := [eI (2), eR v2]) rfl rfl rfl ?_
        refine w_t (np := 34) (l2 := [some (eR a0), some (eI (2)), some (eI (1))]) (s2 := [eI (1), eI (2), eR v2]) rfl rfl rfl ?_
        refine w_t (np := 35) (l2 := [some (eR a0), some (eI (2)), some (eI (1))]) (s2 := [eI (3), eR v2]) rfl (b_iadd rfl) rfl ?_
        refine w_cu (np := 38) (as := [eI (3)]) (l2 := [some (eI (3))]) (rest := [eR v2]) rfl rfl rfl (Nat.ble_eq.mp rfl) rfl rfl rfl rfl ?_
        refine w_t (np := 1) (l2 := [some (eI (3))]) (s2 := [eI (3)]) rfl rfl rfl ?_
        refine w_t (np := 3) (l2 := [some (eI (3))]) (s2 := [eI (10), eI (3)]) rfl rfl rfl ?_
        refine w_t (np := 4) (l2 := [some (eI (3))]) (s2 := [eI (3)]) rfl rfl rfl ?_
        refine w_t (np := 6) (l2 := [some (eI (3))]) (s2 := [eI (10), eI (3)]) rfl rfl rfl ?_
        refine w_t (np := 7) (l2 := [some (eI (3))]) (s2 := [eI (13)]) rfl (b_iadd rfl) rfl ?_
        refine w_t (np := 9) (l2 := [some (eI (3))]) (s2 := [eI (10), eI (13)]) rfl rfl rfl ?_
        refine w_t (np := 10) (l2 := [some (eI (3))]) (s2 := [eI (3)]) rfl rfl rfl ?_
        refine b_ri rfl rfl ?_
        show ex_q (dt_fg L ρ) rc (d + 1, (327, 38, [some (eR a0), some (eI (2)), some (eI (1))], [eI (3), eR v2]), f :: F, μ)
        refine j_b3 (np := 39) rfl rfl hI b4 (by decide) (n := 10) rfl rfl (lo := 0) (hi := 1) (fun _ => rfl) (by decide) (by decide) ?_
        intro v14 e15 b16
        refine b_ine (t1 := 48) (t2 := 42) rfl rfl rfl (ev_w_in (by omega) (by omega)) (fun g17 => ?_) (fun g17 => ?_)
        · have b18 : 1 ≤ v14 ∧ v14 ≤ 1 := by omega
          refine w_t (np := 49) (l2 := [some (eR a0), some (eI (2)), some (eI (1))]) (s2 := [eI (1)]) rfl rfl rfl ?_
          exact b_ri rfl rfl (K (1) (by decide) (gG_e (gG_c (r := μ.1 v2) (d := 2) (show μ.1 v2 2 = 0 from (e7).trans (by omega)) (fun z9 => by have z8 := (show μ.1 v2 1 = v10 from e11); have z7 : μ.1 v2 1 = 0 := z9; omega) (gN_e (fun z9 => by have z8 := (show μ.1 v2 3 = v14 from e15); have z7 : μ.1 v2 3 = 0 := z9; omega) rfl)) e3))
        · have b18 : 0 ≤ v14 ∧ v14 ≤ 0 := by omega
          refine w_t (np := 45) (l2 := [some (eR a0), some (eI (2)), some (eI (2))]) (s2 := []) rfl (b_iinc rfl rfl rfl) rfl ?_
          refine w_go (t1 := 28) rfl rfl ?_
          refine w_t (np := 29) (l2 := [some (eR a0), some (eI (2)), some (eI (2))]) (s2 := [eR a0]) rfl (s_an rfl (pos_g hI gA0 (by decide))) rfl ?_
          refine w_gf (np := 32) (v := eR v2) rfl rfl (hI.kd gA0 (by decide) (n := 69) rfl) (by rw [e3]; rfl) ?_
          refine w_t (np := 33) (l2 := [some (eR a0), some (eI (2)), some (eI (2))]) (s2 := [eI (2), eR v2]) rfl rfl rfl ?_
          refine w_t (np := 34) (l2 := [some (eR a0), some (eI (2)), some (eI (2))]) (s2 := [eI (2), eI (2), eR v2]) rfl rfl rfl ?_
          refine w_t (np := 35) (l2 := [some (eR a0), some (eI (2)), some (eI (2))]) (s2 := [eI (4), eR v2]) rfl (b_iadd rfl) rfl ?_
          refine w_cu (np := 38) (as := [eI (4)]) (l2 := [some (eI (4))]) (rest := [eR v2]) rfl rfl rfl (Nat.ble_eq.mp rfl) rfl rfl rfl rfl ?_
          refine w_t (np := 1) (l2 := [some (eI (4))]) (s2 := [eI (4)]) rfl rfl rfl ?_
          refine w_t (np := 3) (l2 := [some (eI (4))]) (s2 := [eI (10), eI (4)]) rfl rfl rfl ?_
          refine w_t (np := 4) (l2 := [some (eI (4))]) (s2 := [eI (4)]) rfl rfl rfl ?_
          refine w_t (np := 6) (l2 := [some (eI (4))]) (s2 := [eI (10), eI (4)]) rfl rfl rfl ?_
          refine w_t (np := 7) (l2 := [some (eI (4))]) (s2 := [eI (14)]) rfl (b_iadd rfl) rfl ?_
          refine w_t (np := 9) (l2 := [some (eI (4))]) (s2 := [eI (10), eI (14)]) rfl rfl rfl ?_
          refine w_t (np := 10) (l2 := [some (eI (4))]) (s2 := [eI (4)]) rfl rfl rfl ?_
          refine b_ri rfl rfl ?_
          show ex_q (dt_fg L ρ) rc (d + 1, (327, 38, [some (eR a0), some (eI (2)), some (eI (2))], [eI (4), eR v2]), f :: F, μ)
          refine j_b3 (np := 39) rfl rfl hI b4 (by decide) (n := 10) rfl rfl (lo := 0) (hi := 1) (fun _ => rfl) (by decide) (by decide) ?_
          intro v18 e19 b20
          refine b_ine (t1 := 48) (t2 := 42) rfl rfl rfl (ev_w_in (by omega) (by omega)) (fun g21 => ?_) (fun g21 => ?_)
          · have b22 : 1 ≤ v18 ∧ v18 ≤ 1 := by omega
            refine w_t (np := 49) (l2 := [some (eR a0), some (eI (2)), some (eI (2))]) (s2 := [eI (2)]) rfl rfl rfl ?_
            exact b_ri rfl rfl (K (2) (by decide) (gG_e (gG_c (r := μ.1 v2) (d := 2) (show μ.1 v2 2 = 0 from (e7).trans (by omega)) (fun z9 => by have z8 := (show μ.1 v2 1 = v10 from e11); have z7 : μ.1 v2 1 = 0 := z9; omega) (gN_s (show μ.1 v2 3 = 0 from (e15).trans (by omega)) (gN_e (fun z9 => by have z8 := (show μ.1 v2 4 = v18 from e19); have z7 : μ.1 v2 4 = 0 := z9; omega) rfl))) e3))
          · have b22 : 0 ≤ v18 ∧ v18 ≤ 0 := by omega
            refine w_t (np := 45) (l2 := [some (eR a0), some (eI (2)), some (eI (3))]) (s2 := []) rfl (b_iinc rfl rfl rfl) rfl ?_
            refine w_go (t1 := 28) rfl rfl ?_
            refine w_t (np := 29) (l2 := [some (eR a0), some (eI (2)), some (eI (3))]) (s2 := [eR a0]) rfl (s_an rfl (pos_g hI gA0 (by decide))) rfl ?_
            refine w_gf (np := 32) (v := eR v2) rfl rfl (hI.kd gA0 (by decide) (n := 69) rfl) (by rw [e3]; rfl) ?_
            refine w_t (np := 33) (l2 := [some (eR a0), some (eI (2)), some (eI (3))]) (s2 := [eI (2), eR v2]) rfl rfl rfl ?_
            refine w_t (np := 34) (l2 := [some (eR a0), some (eI (2)), some (eI (3))]) (s2 := [eI (3), eI (2), eR v2]) rfl rfl rfl ?_
            refine w_t (np := 35) (l2 := [some (eR a0), some (eI (2)), some (eI (3))]) (s2 := [eI (5), eR v2]) rfl (b_iadd rfl) rfl ?_
            refine w_cu (np := 38) (as := [eI (5)]) (l2 := [some (eI (5))]) (rest := [eR v2]) rfl rfl rfl (Nat.ble_eq.mp rfl) rfl rfl rfl rfl ?_
            refine w_t (np := 1) (l2 := [some (eI (5))]) (s2 := [eI (5)]) rfl rfl rfl ?_
            refine w_t (np := 3) (l2 := [some (eI (5))]) (s2 := [eI (10), eI (5)]) rfl rfl rfl ?_
            refine w_t (np := 4) (l2 := [some (eI (5))]) (s2 := [eI (5)]) rfl rfl rfl ?_
            refine w_t (np := 6) (l2 := [some (eI (5))]) (s2 := [eI (10), eI (5)]) rfl rfl rfl ?_
            refine w_t (np := 7) (l2 := [some (eI (5))]) (s2 := [eI (15)]) rfl (b_iadd rfl) rfl ?_
            refine w_t (np := 9) (l2 := [some (eI (5))]) (s2 := [eI (10), eI (15)]) rfl rfl rfl ?_
            refine w_t (np := 10) (l2 := [some (eI (5))]) (s2 := [eI (5)]) rfl rfl rfl ?_
            refine b_ri rfl rfl ?_
            show ex_q (dt_fg L ρ) rc (d + 1, (327, 38, [some (eR a0), some (eI (2)), some (eI (3))], [eI (5), eR v2]), f :: F, μ)
            refine j_b3 (np := 39) rfl rfl hI b4 (by decide) (n := 10) rfl rfl (lo := 0) (hi := 1) (fun _ => rfl) (by decide) (by decide) ?_
            intro v22 e23 b24
            refine b_ine (t1 := 48) (t2 := 42) rfl rfl rfl (ev_w_in (by omega) (by omega)) (fun g25 => ?_) (fun g25 => ?_)
            · have b26 : 1 ≤ v22 ∧ v22 ≤ 1 := by omega
              refine w_t (np := 49) (l2 := [some (eR a0), some (eI (2)), some (eI (3))]) (s2 := [eI (3)]) rfl rfl rfl ?_
              exact b_ri rfl rfl (K (3) (by decide) (gG_e (gG_c (r := μ.1 v2) (d := 2) (show μ.1 v2 2 = 0 from (e7).trans (by omega)) (fun z9 => by have z8 := (show μ.1 v2 1 = v10 from e11); have z7 : μ.1 v2 1 = 0 := z9; omega) (gN_s (show μ.1 v2 3 = 0 from (e15).trans (by omega)) (gN_s (show μ.1 v2 4 = 0 from (e19).trans (by omega)) (gN_e (fun z9 => by have z8 := (show μ.1 v2 5 = v22 from e23); have z7 : μ.1 v2 5 = 0 := z9; omega) rfl)))) e3))
            · have b26 : 0 ≤ v22 ∧ v22 ≤ 0 := by omega
              refine w_t (np := 45) (l2 := [some (eR a0), some (eI (2)), some (eI (4))]) (s2 := []) rfl (b_iinc rfl rfl rfl) rfl ?_
              refine w_go (t1 := 28) rfl rfl ?_
              refine w_t (np := 29) (l2 := [some (eR a0), some (eI (2)), some (eI (4))]) (s2 := [eR a0]) rfl (s_an rfl (pos_g hI gA0 (by decide))) rfl ?_
              refine w_gf (np := 32) (v := eR v2) rfl rfl (hI.kd gA0 (by decide) (n := 69) rfl) (by rw [e3]; rfl) ?_
              refine w_t (np := 33) (l2 := [some (eR a0), some (eI (2)), some (eI (4))]) (s2 := [eI (2), eR v2]) rfl rfl rfl ?_
              refine w_t (np := 34) (l2 := [some (eR a0), some (eI (2)), some (eI (4))]) (s2 := [eI (4), eI (2), eR v2]) rfl rfl rfl ?_
              refine w_t (np := 35) (l2 := [some (eR a0), some (eI (2)), some (eI (4))]) (s2 := [eI (6), eR v2]) rfl (b_iadd rfl) rfl ?_
              refine w_cu (np := 38) (as := [eI (6)]) (l2 := [some (eI (6))]) (rest := [eR v2]) rfl rfl rfl (Nat.ble_eq.mp rfl) rfl rfl rfl rfl ?_
              refine w_t (np := 1) (l2 := [some (eI (6))]) (s2 := [eI (6)]) rfl rfl rfl ?_
              refine w_t (np := 3) (l2 := [some (eI (6))]) (s2 := [eI (10), eI (6)]) rfl rfl rfl ?_
              refine w_t (np := 4) (l2 := [some (eI (6))]) (s2 := [eI (6)]) rfl rfl rfl ?_
              refine w_t (np := 6) (l2 := [some (eI (6))]) (s2 := [eI (10), eI (6)]) rfl rfl rfl ?_
              refine w_t (np := 7) (l2 := [some (eI (6))]) (s2 := [eI (16)]) rfl (b_iadd rfl) rfl ?_
              refine w_t (np := 9) (l2 := [some (eI (6))]) (s2 := [eI (10), eI (16)]) rfl rfl rfl ?_
              refine w_t (np := 10) (l2 := [some (eI (6))]) (s2 := [eI (6)]) rfl rfl rfl ?_
              refine b_ri rfl rfl ?_
              show ex_q (dt_fg L ρ) rc (d + 1, (327, 38, [some (eR a0), some (eI (2)), some (eI (4))], [eI (6), eR v2]), f :: F, μ)
              refine j_b3 (np := 39) rfl rfl hI b4 (by decide) (n := 10) rfl rfl (lo := 0) (hi := 1) (fun _ => rfl) (by decide) (by decide) ?_
              intro v26 e27 b28
              refine b_ine (t1 := 48) (t2 := 42) rfl rfl rfl (ev_w_in (by omega) (by omega)) (fun g29 => ?_) (fun g29 => ?_)
              · have b30 : 1 ≤ v26 ∧ v26 ≤ 1 := by omega
                refine w_t (np := 49) (l2 := [some (eR a0), some (eI (2)), some (eI (4))]) (s2 := [eI (4)]) rfl rfl rfl ?_
                exact b_ri rfl rfl (K (4) (by decide) (gG_e (gG_c (r := μ.1 v2) (d := 2) (show μ.1 v2 2 = 0 from (e7).trans (by omega)) (fun z9 => by have z8 := (show μ.1 v2 1 = v10 from e11); have z7 : μ.1 v2 1 = 0 := z9; omega) (gN_s (show μ.1 v2 3 = 0 from (e15).trans (by omega)) (gN_s (show μ.1 v2 4 = 0 from (e19).trans (by omega)) (gN_s (show μ.1 v2 5 = 0 from (e23).trans (by omega)) (gN_e (fun z9 => by have z8 := (show μ.1 v2 6 = v26 from e27); have z7 : μ.1 v2 6 = 0 := z9; omega) rfl))))) e3))
              · have b30 : 0 ≤ v26 ∧ v26 ≤ 0 := by omega
                refine w_t (np := 45) (l2 := [some (eR a0), some (eI (2)), some (eI (5))]) (s2 := []) rfl (b_iinc rfl rfl rfl) rfl ?_
                refine w_go (t1 := 28) rfl rfl ?_
                refine w_t (np := 29) (l2 := [some (eR a0), some (eI (2)), some (eI (5))]) (s2 := [eR a0]) rfl (s_an rfl (pos_g hI gA0 (by decide))) rfl ?_
                refine w_gf (np := 32) (v := eR v2) rfl rfl (hI.kd gA0 (by decide) (n := 69) rfl) (by rw [e3]; rfl) ?_
                refine w_t (np := 33) (l2 := [some (eR a0), some (eI (2)), some (eI (5))]) (s2 := [eI (2), eR v2]) rfl rfl rfl ?_
                refine w_t (np := 34) (l2 := [some (eR a0), some (eI (2)), some (eI (5))]) (s2 := [eI (5), eI (2), eR v2]) rfl rfl rfl ?_
                refine w_t (np := 35) (l2 := [some (eR a0), some (eI (2)), some (eI (5))]) (s2 := [eI (7), eR v2]) rfl (b_iadd rfl) rfl ?_
                refine w_cu (np := 38) (as := [eI (7)]) (l2 := [some (eI (7))]) (rest := [eR v2]) rfl rfl rfl (Nat.ble_eq.mp rfl) rfl rfl rfl rfl ?_
                refine w_t (np := 1) (l2 := [some (eI (7))]) (s2 := [eI (7)]) rfl rfl rfl ?_
                refine w_t (np := 3) (l2 := [some (eI (7))]) (s2 := [eI (10), eI (7)]) rfl rfl rfl ?_
                refine w_t (np := 4) (l2 := [some (eI (7))]) (s2 := [eI (7)]) rfl rfl rfl ?_
                refine w_t (np := 6) (l2 := [some (eI (7))]) (s2 := [eI (10), eI (7)]) rfl rfl rfl ?_
                refine w_t (np := 7) (l2 := [some (eI (7))]) (s2 := [eI (17)]) rfl (b_iadd rfl) rfl ?_
                refine w_t (np := 9) (l2 := [some (eI (7))]) (s2 := [eI (10), eI (17)]) rfl rfl rfl ?_
                refine w_t (np := 10) (l2 := [some (eI (7))]) (s2 := [eI (7)]) rfl rfl rfl ?_
                refine b_ri rfl rfl ?_
                show ex_q (dt_fg L ρ) rc (d + 1, (327, 38, [some (eR a0), some (eI (2)), some (eI (5))], [eI (7), eR v2]), f :: F, μ)
                refine j_b3 (np := 39) rfl rfl hI b4 (by decide) (n := 10) rfl rfl (lo := 0) (hi := 1) (fun _ => rfl) (by decide) (by decide) ?_
                intro v30 e31 b32
                refine b_ine (t1 := 48) (t2 := 42) rfl rfl rfl (ev_w_in (by omega) (by omega)) (fun g33 => ?_) (fun g33 => ?_)
                · have b34 : 1 ≤ v30 ∧ v30 ≤ 1 := by omega
                  refine w_t (np := 49) (l2 := [some (eR a0), some (eI (2)), some (eI (5))]) (s2 := [eI (5)]) rfl rfl rfl ?_
                  exact b_ri rfl rfl (K (5) (by decide) (gG_e (gG_c (r := μ.1 v2) (d := 2) (show μ.1 v2 2 = 0 from (e7).trans (by omega)) (fun z9 => by have z8 := (show μ.1 v2 1 = v10 from e11); have z7 : μ.1 v2 1 = 0 := z9; omega) (gN_s (show μ.1 v2 3 = 0 from (e15).trans (by omega)) (gN_s (show μ.1 v2 4 = 0 from (e19).trans (by omega)) (gN_s (show μ.1 v2 5 = 0 from (e23).trans (by omega)) (gN_s (show μ.1 v2 6 = 0 from (e27).trans (by omega)) (gN_e (fun z9 => by have z8 := (show μ.1 v2 7 = v30 from e31); have z7 : μ.1 v2 7 = 0 := z9; omega) rfl)))))) e3))
                · have b34 : 0 ≤ v30 ∧ v30 ≤ 0 := by omega
                  refine w_t (np := 45) (l2 := [some (eR a0), some (eI (2)), some (eI (6))]) (s2 := []) rfl (b_iinc rfl rfl rfl) rfl ?_
                  refine w_go (t1 := 28) rfl rfl ?_
                  refine w_t (np := 29) (l2 := [some (eR a0), some (eI (2)), some (eI (6))]) (s2 := [eR a0]) rfl (s_an rfl (pos_g hI gA0 (by decide))) rfl ?_
                  refine w_gf (np := 32) (v := eR v2) rfl rfl (hI.kd gA0 (by decide) (n := 69) rfl) (by rw [e3]; rfl) ?_
                  refine w_t (np := 33) (l2 := [some (eR a0), some (eI (2)), some (eI (6))]) (s2 := [eI (2), eR v2]) rfl rfl rfl ?_
                  refine w_t (np := 34) (l2 := [some (eR a0), some (eI (2)), some (eI (6))]) (s2 := [eI (6), eI (2), eR v2]) rfl rfl rfl ?_
                  refine w_t (np := 35) (l2 := [some (eR a0), some (eI (2)), some (eI (6))]) (s2 := [eI (8), eR v2]) rfl (b_iadd rfl) rfl ?_
                  refine w_cu (np := 38) (as := [eI (8)]) (l2 := [some (eI (8))]) (rest := [eR v2]) rfl rfl rfl (Nat.ble_eq.mp rfl) rfl rfl rfl rfl ?_
                  refine w_t (np := 1) (l2 := [some (eI (8))]) (s2 := [eI (8)]) rfl rfl rfl ?_
                  refine w_t (np := 3) (l2 := [some (eI (8))]) (s2 := [eI (10), eI (8)]) rfl rfl rfl ?_
                  refine w_t (np := 4) (l2 := [some (eI (8))]) (s2 := [eI (8)]) rfl rfl rfl ?_
                  refine w_t (np := 6) (l2 := [some (eI (8))]) (s2 := [eI (10), eI (8)]) rfl rfl rfl ?_
                  refine w_t (np := 7) (l2 := [some (eI (8))]) (s2 := [eI (18)]) rfl (b_iadd rfl) rfl ?_
                  refine w_t (np := 9) (l2 := [some (eI (8))]) (s2 := [eI (10), eI (18)]) rfl rfl rfl ?_
                  refine w_t (np := 10) (l2 := [some (eI (8))]) (s2 := [eI (8)]) rfl rfl rfl ?_
                  refine b_ri rfl rfl ?_
                  show ex_q (dt_fg L ρ) rc (d + 1, (327, 38, [some (eR a0), some (eI (2)), some (eI (6))], [eI (8), eR v2]), f :: F, μ)
                  refine j_b3 (np := 39) rfl rfl hI b4 (by decide) (n := 10) rfl rfl (lo := 0) (hi := 1) (fun _ => rfl) (by decide) (by decide) ?_
                  intro v34 e35 b36
                  refine b_ine (t1 := 48) (t2 := 42) rfl rfl rfl (ev_w_in (by omega) (by omega)) (fun g37 => ?_) (fun g37 => ?_)
                  · have b38 : 1 ≤ v34 ∧ v34 ≤ 1 := by omega
                    refine w_t (np := 49) (l2 := [some (eR a0), some (eI (2)), some (eI (6))]) (s2 := [eI (6)]) rfl rfl rfl ?_
                    exact b_ri rfl rfl (K (6) (by decide) (gG_e (gG_c (r := μ.1 v2) (d := 2) (show μ.1 v2 2 = 0 from (e7).trans (by omega)) (fun z9 => by have z8 := (show μ.1 v2 1 = v10 from e11); have z7 : μ.1 v2 1 = 0 := z9; omega) (gN_s (show μ.1 v2 3 = 0 from (e15).trans (by omega)) (gN_s (show μ.1 v2 4 = 0 from (e19).trans (by omega)) (gN_s (show μ.1 v2 5 = 0 from (e23).trans (by omega)) (gN_s (show μ.1 v2 6 = 0 from (e27).trans (by omega)) (gN_s (show μ.1 v2 7 = 0 from (e31).trans (by omega)) (gN_e (fun z9 => by have z8 := (show μ.1 v2 8 = v34 from e35); have z7 : μ.1 v2 8 = 0 := z9; omega) rfl))))))) e3))
                  · have b38 : 0 ≤ v34 ∧ v34 ≤ 0 := by omega
                    refine w_t (np := 45) (l2 := [some (eR a0), some (eI (2)), some (eI (7))]) (s2 := []) rfl (b_iinc rfl rfl rfl) rfl ?_
                    refine w_go (t1 := 28) rfl rfl ?_
                    refine w_t (np := 29) (l2 := [some (eR a0), some (eI (2)), some (eI (7))]) (s2 := [eR a0]) rfl (s_an rfl (pos_g hI gA0 (by decide))) rfl ?_
                    refine w_gf (np := 32) (v := eR v2) rfl rfl (hI.kd gA0 (by decide) (n := 69) rfl) (by rw [e3]; rfl) ?_
                    refine w_t (np := 33) (l2 := [some (eR a0), some (eI (2)), some (eI (7))]) (s2 := [eI (2), eR v2]) rfl rfl rfl ?_
                    refine w_t (np := 34) (l2 := [some (eR a0), some (eI (2)), some (eI (7))]) (s2 := [eI (7), eI (2), eR v2]) rfl rfl rfl ?_
                    refine w_t (np := 35) (l2 := [some (eR a0), some (eI (2)), some (eI (7))]) (s2 := [eI (9), eR v2]) rfl (b_iadd rfl) rfl ?_
                    refine w_cu (np := 38) (as := [eI (9)]) (l2 := [some (eI (9))]) (rest := [eR v2]) rfl rfl rfl (Nat.ble_eq.mp rfl) rfl rfl rfl rfl ?_
                    refine w_t (np := 1) (l2 := [some (eI (9))]) (s2 := [eI (9)]) rfl rfl rfl ?_
                    refine w_t (np := 3) (l2 := [some (eI (9))]) (s2 := [eI (10), eI (9)]) rfl rfl rfl ?_
                    refine w_t (np := 4) (l2 := [some (eI (9))]) (s2 := [eI (9)]) rfl rfl rfl ?_
                    refine w_t (np := 6) (l2 := [some (eI (9))]) (s2 := [eI (10), eI (9)]) rfl rfl rfl ?_
                    refine w_t (np := 7) (l2 := [some (eI (9))]) (s2 := [eI (19)]) rfl (b_iadd rfl) rfl ?_
                    refine w_t (np := 9) (l2 := [some (eI (9))]) (s2 := [eI (10), eI (19)]) rfl rfl rfl ?_
                    refine w_t (np := 10) (l2 := [some (eI (9))]) (s2 := [eI (9)]) rfl rfl rfl ?_
                    refine b_ri rfl rfl ?_
                    show ex_q (dt_fg L ρ) rc (d + 1, (327, 38, [some (eR a0), some (eI (2)), some (eI (7))], [eI (9), eR v2]), f :: F, μ)
                    refine j_b3 (np := 39) rfl rfl hI b4 (by decide) (n := 10) rfl rfl (lo := 0) (hi := 1) (fun _ => rfl) (by decide) (by decide) ?_
                    intro v38 e39 b40
                    refine b_ine (t1 := 48) (t2 := 42) rfl rfl rfl (ev_w_in (by omega) (by omega)) (fun g41 => ?_) (fun g41 => ?_)
                    · have b42 : 1 ≤ v38 ∧ v38 ≤ 1 := by omega
                      refine w_t (np := 49) (l2 := [some (eR a0), some (eI (2)), some (eI (7))]) (s2 := [eI (7)]) rfl rfl rfl ?_
                      exact b_ri rfl rfl (K (7) (by decide) (gG_e (gG_c (r := μ.1 v2) (d := 2) (show μ.1 v2 2 = 0 from (e7).trans (by omega)) (fun z9 => by have z8 := (show μ.1 v2 1 = v10 from e11); have z7 : μ.1 v2 1 = 0 := z9; omega) (gN_s (show μ.1 v2 3 = 0 from (e15).trans (by omega)) (gN_s (show μ.1 v2 4 = 0 from (e19).trans (by omega)) (gN_s (show μ.1 v2 5 = 0 from (e23).trans (by omega)) (gN_s (show μ.1 v2 6 = 0 from (e27).trans (by omega)) (gN_s (show μ.1 v2 7 = 0 from (e31).trans (by omega)) (gN_s (show μ.1 v2 8 = 0 from (e35).trans (by omega)) (gN_e (fun z9 => by have z8 := (show μ.1 v2 9 = v38 from e39); have z7 : μ.1 v2 9 = 0 := z9; omega) rfl)))))))) e3))
                    · have b42 : 0 ≤ v38 ∧ v38 ≤ 0 := by omega
                      refine w_t (np := 45) (l2 := [some (eR a0), some (eI (2)), some (eI (8))]) (s2 := []) rfl (b_iinc rfl rfl rfl) rfl ?_
                      refine w_go (t1 := 28) rfl rfl ?_
                      refine w_t (np := 29) (l2 := [some (eR a0), some (eI (2)), some (eI (8))]) (s2 := [eR a0]) rfl (s_an rfl (pos_g hI gA0 (by decide))) rfl ?_
                      refine w_gf (np := 32) (v := eR v2) rfl rfl (hI.kd gA0 (by decide) (n := 69) rfl) (by rw [e3]; rfl) ?_
                      refine w_t (np := 33) (l2 := [some (eR a0), some (eI (2)), some (eI (8))]) (s2 := [eI (2), eR v2]) rfl rfl rfl ?_
                      refine w_t (np := 34) (l2 := [some (eR a0), some (eI (2)), some (eI (8))]) (s2 := [eI (8), eI (2), eR v2]) rfl rfl rfl ?_
                      refine w_t (np := 35) (l2 := [some (eR a0), some (eI (2)), some (eI (8))]) (s2 := [eI (10), eR v2]) rfl (b_iadd rfl) rfl ?_
                      refine w_cu (np := 38) (as := [eI (10)]) (l2 := [some (eI (10))]) (rest := [eR v2]) rfl rfl rfl (Nat.ble_eq.mp rfl) rfl rfl rfl rfl ?_
                      refine w_t (np := 1) (l2 := [some (eI (10))]) (s2 := [eI (10)]) rfl rfl rfl ?_
                      refine w_t (np := 3) (l2 := [some (eI (10))]) (s2 := [eI (10), eI (10)]) rfl rfl rfl ?_
                      refine w_t (np := 4) (l2 := [some (eI (10))]) (s2 := [eI (0)]) rfl rfl rfl ?_
                      refine w_t (np := 6) (l2 := [some (eI (10))]) (s2 := [eI (10), eI (0)]) rfl rfl rfl ?_
                      refine w_t (np := 7) (l2 := [some (eI (10))]) (s2 := [eI (10)]) rfl (b_iadd rfl) rfl ?_
                      refine w_t (np := 9) (l2 := [some (eI (10))]) (s2 := [eI (10), eI (10)]) rfl rfl rfl ?_
                      refine w_t (np := 10) (l2 := [some (eI (10))]) (s2 := [eI (0)]) rfl rfl rfl ?_
                      refine b_ri rfl rfl ?_
                      show ex_q (dt_fg L ρ) rc (d + 1, (327, 38, [some (eR a0), some (eI (2)), some (eI (8))], [eI (0), eR v2]), f :: F, μ)
                      refine j_b3 (np := 39) rfl rfl hI b4 (by decide) (n := 10) rfl rfl (lo := 0) (hi := 1) (fun _ => rfl) (by decide) (by decide) ?_
                      intro v42 e43 b44
                      refine b_ine (t1 := 48) (t2 := 42) rfl rfl rfl (ev_w_in (by omega) (by omega)) (fun g45 => ?_) (fun g45 => ?_)
                      · have b46 : 1 ≤ v42 ∧ v42 ≤ 1 := by omega
                        refine w_t (np := 49) (l2 := [some (eR a0), some (eI (2)), some (eI (8))]) (s2 := [eI (8)]) rfl rfl rfl ?_
                        exact b_ri rfl rfl (K (8) (by decide) (gG_e (gG_c (r := μ.1 v2) (d := 2) (show μ.1 v2 2 = 0 from (e7).trans (by omega)) (fun z9 => by have z8 := (show μ.1 v2 1 = v10 from e11); have z7 : μ.1 v2 1 = 0 := z9; omega) (gN_s (show μ.1 v2 3 = 0 from (e15).trans (by omega)) (gN_s (show μ.1 v2 4 = 0 from (e19).trans (by omega)) (gN_s (show μ.1 v2 5 = 0 from (e23).trans (by omega)) (gN_s (show μ.1 v2 6 = 0 from (e27).trans (by omega)) (gN_s (show μ.1 v2 7 = 0 from (e31).trans (by omega)) (gN_s (show μ.1 v2 8 = 0 from (e35).trans (by omega)) (gN_s (show μ.1 v2 9 = 0 from (e39).trans (by omega)) (gN_e (fun z9 => by have z8 := (show μ.1 v2 0 = v42 from e43); have z7 : μ.1 v2 0 = 0 := z9; omega) rfl))))))))) e3))
                      · have b46 : 0 ≤ v42 ∧ v42 ≤ 0 := by omega
                        refine w_t (np := 45) (l2 := [some (eR a0), some (eI (2)), some (eI (9))]) (s2 := []) rfl (b_iinc rfl rfl rfl) rfl ?_
                        refine w_go (t1 := 28) rfl rfl ?_
                        refine w_t (np := 29) (l2 := [some (eR a0), some (eI (2)), some (eI (9))]) (s2 := [eR a0]) rfl (s_an rfl (pos_g hI gA0 (by decide))) rfl ?_
                        refine w_gf (np := 32) (v := eR v2) rfl rfl (hI.kd gA0 (by decide) (n := 69) rfl) (by rw [e3]; rfl) ?_
                        refine w_t (np := 33) (l2 := [some (eR a0), some (eI (2)), some (eI (9))]) (s2 := [eI (2), eR v2]) rfl rfl rfl ?_
                        refine w_t (np := 34) (l2 := [some (eR a0), some (eI (2)), some (eI (9))]) (s2 := [eI (9), eI (2), eR v2]) rfl rfl rfl ?_
                        refine w_t (np := 35) (l2 := [some (eR a0), some (eI (2)), some (eI (9))]) (s2 := [eI (11), eR v2]) rfl (b_iadd rfl) rfl ?_
                        refine w_cu (np := 38) (as := [eI (11)]) (l2 := [some (eI (11))]) (rest := [eR v2]) rfl rfl rfl (Nat.ble_eq.mp rfl) rfl rfl rfl rfl ?_
                        refine w_t (np := 1) (l2 := [some (eI (11))]) (s2 := [eI (11)]) rfl rfl rfl ?_
                        refine w_t (np := 3) (l2 := [some (eI (11))]) (s2 := [eI (10), eI (11)]) rfl rfl rfl ?_
                        refine w_t (np := 4) (l2 := [some (eI (11))]) (s2 := [eI (1)]) rfl rfl rfl ?_
                        refine w_t (np := 6) (l2 := [some (eI (11))]) (s2 := [eI (10), eI (1)]) rfl rfl rfl ?_
                        refine w_t (np := 7) (l2 := [some (eI (11))]) (s2 := [eI (11)]) rfl (b_iadd rfl) rfl ?_
                        refine w_t (np := 9) (l2 := [some (eI (11))]) (s2 := [eI (10), eI (11)]) rfl rfl rfl ?_
                        refine w_t (np := 10) (l2 := [some (eI (11))]) (s2 := [eI (1)]) rfl rfl rfl ?_
                        refine b_ri rfl rfl ?_
                        show ex_q (dt_fg L ρ) rc (d + 1, (327, 38, [some (eR a0), some (eI (2)), some (eI (9))], [eI (1), eR v2]), f :: F, μ)
                        refine j_b3 (np := 39) rfl rfl hI b4 (by decide) (n := 10) rfl rfl (lo := 0) (hi := 1) (fun _ => rfl) (by decide) (by decide) ?_
                        intro v46 e47 b48
                        have e47 := e47.symm.trans e11
                        rw [e47]
                        refine b_ine (t1 := 48) (t2 := 42) rfl rfl rfl (ev_w_in (by omega) (by omega)) (fun g49 => ?_) (fun g49 => False.elim (by omega))
                        refine w_t (np := 49) (l2 := [some (eR a0), some (eI (2)), some (eI (9))]) (s2 := [eI (9)]) rfl rfl rfl ?_
                        exact b_ri rfl rfl (K (9) (by decide) (gG_e (gG_c (r := μ.1 v2) (d := 2) (show μ.1 v2 2 = 0 from (e7).trans (by omega)) (fun z9 => by have z8 := (show μ.1 v2 1 = v10 from e11); have z7 : μ.1 v2 1 = 0 := z9; omega) (gN_s (show μ.1 v2 3 = 0 from (e15).trans (by omega)) (gN_s (show μ.1 v2 4 = 0 from (e19).trans (by omega)) (gN_s (show μ.1 v2 5 = 0 from (e23).trans (by omega)) (gN_s (show μ.1 v2 6 = 0 from (e27).trans (by omega)) (gN_s (show μ.1 v2 7 = 0 from (e31).trans (by omega)) (gN_s (show μ.1 v2 8 = 0 from (e35).trans (by omega)) (gN_s (show μ.1 v2 9 = 0 from (e39).trans (by omega)) (gN_s (show μ.1 v2 0 = 0 from (e43).trans (by omega)) rfl))))))))) e3))
      · have b14 : 0 ≤ v10 ∧ v10 ≤ 0 := by omega
        refine w_t (np := 25) (l2 := [some (eR a0), some (eI (2)), none]) (s2 := [eI (0)]) rfl rfl rfl ?_
        exact b_ri rfl rfl (K (0) (by decide) (gG_e (gG_b (r := μ.1 v2) (d := 2) (show μ.1 v2 2 = 0 from (e7).trans (by omega)) (show μ.1 v2 1 = 0 from (e11).trans (by omega))) e3))
  · subst g1
    refine w_t (np := 1) (l2 := [some (eR a0), some (eI (3)), none]) (s2 := [eR a0]) rfl (s_an rfl (pos_g hI gA0 (by decide))) rfl ?_
    refine j_gr (np := 4) rfl rfl hI gA0 (by decide) (n := 69) rfl rfl rfl ?_
    intro v2 e3 b4 z5
    have b4 : g v2 = 85 := Nat.eq_of_beq_eq_true b4
    refine w_t (np := 5) (l2 := [some (eR a0), some (eI (3)), none]) (s2 := [eI (3), eR v2]) rfl rfl rfl ?_
    refine j_b3 (np := 6) rfl rfl hI b4 (by decide) (n := 10) rfl rfl (lo := 0) (hi := 1) (fun _ => rfl) (by decide) (by decide) ?_
    intro v6 e7 b8
    refine b_ine (t1 := 24) (t2 := 9) rfl rfl rfl (ev_w_in (by omega) (by omega)) (fun g9 => ?_) (fun g9 => ?_)
    · have b10 : 1 ≤ v6 ∧ v6 ≤ 1 := by omega
      refine w_t (np := 25) (l2 := [some (eR a0), some (eI (3)), none]) (s2 := [eI (0)]) rfl rfl rfl ?_
      exact b_ri rfl rfl (K (0) (by decide) (gG_e (gG_a (r := μ.1 v2) (d := 3) (fun z9 => by have z8 := (show μ.1 v2 3 = v6 from e7); have z7 : μ.1 v2 3 = 0 := z9; omega)) e3))
    · have b10 : 0 ≤ v6 ∧ v6 ≤ 0 := by omega
      refine w_t (np := 10) (l2 := [some (eR a0), some (eI (3)), none]) (s2 := [eR a0]) rfl (s_an rfl (pos_g hI gA0 (by decide))) rfl ?_
      refine w_gf (np := 13) (v := eR v2) rfl rfl (hI.kd gA0 (by decide) (n := 69) rfl) (by rw [e3]; rfl) ?_
      refine w_t (np := 14) (l2 := [some (eR a0), some (eI (3)), none]) (s2 := [eI (3), eR v2]) rfl rfl rfl ?_
      refine w_t (np := 16) (l2 := [some (eR a0), some (eI (3)), none]) (s2 := [eI (9), eI (3), eR v2]) rfl rfl rfl ?_
      refine w_t (np := 17) (l2 := [some (eR a0), some (eI (3)), none]) (s2 := [eI (12), eR v2]) rfl (b_iadd rfl) rfl ?_
      refine w_cu (np := 20) (as := [eI (12)]) (l2 := [some (eI (12))]) (rest := [eR v2]) rfl rfl rfl (Nat.ble_eq.mp rfl) rfl rfl rfl rfl ?_
      refine w_t (np := 1) (l2 := [some (eI (12))]) (s2 := [eI (12)]) rfl rfl rfl ?_
      refine w_t (np := 3) (l2 := [some (eI (12))]) (s2 := [eI (10), eI (12)]) rfl rfl rfl ?_
      refine w_t (np := 4) (l2 := [some (eI (12))]) (s2 := [eI (2)]) rfl rfl rfl ?_
      refine w_t (np := 6) (l2 := [some (eI (12))]) (s2 := [eI (10), eI (2)]) rfl rfl rfl ?_
      refine w_t (np := 7) (l2 := [some (eI (12))]) (s2 := [eI (12)]) rfl (b_iadd rfl) rfl ?_
      refine w_t (np := 9) (l2 := [some (eI (12))]) (s2 := [eI (10), eI (12)]) rfl rfl rfl ?_
      refine w_t (np := 10) (l2 := [some (eI (12))]) (s2 := [eI (2)]) rfl rfl rfl ?_
      refine b_ri rfl rfl ?_
      show ex_q (dt_fg L ρ) rc (d + 1, (327, 20, [some (eR a0), some (eI (3)), none], [eI (2), eR v2]), f :: F, μ)
      refine j_b3 (np := 21) rfl rfl hI b4 (by decide) (n := 10) rfl rfl (lo := 0) (hi := 1) (fun _ => rfl) (by decide) (by decide) ?_
      intro v10 e11 b12
      refine b_ine (t1 := 26) (t2 := 24) rfl rfl rfl (ev_w_in (by omega) (by omega)) (fun g13 => ?_) (fun g13 => ?_)
      · have b14 : 1 ≤ v10 ∧ v10 ≤ 1 := by omega
        refine w_t (np := 27) (l2 := [some (eR a0), some (eI (3)), none]) (s2 := [eI (1)]) rfl rfl rfl ?_
        refine w_t (np := 28) (l2 := [some (eR a0), some (eI (3)), some (eI (1))]) (s2 := []) rfl rfl rfl ?_
        refine w_t (np := 29) (l2 := [some (eR a0), some (eI (3)), some (eI (1))]) (s2 := [eR a0]) rfl (s_an rfl (pos_g hI gA0 (by decide))) rfl ?_
        refine w_gf (np := 32) (v := eR v2) rfl rfl (hI.kd gA0 (by decide) (n := 69) rfl) (by rw [e3]; rfl) ?_
        refine w_t (np := 33) (l2 := [some (eR a0), some (eI (3)), some (eI (1))]) (s2 := [eI (3), eR v2]) rfl rfl rfl ?_
        refine w_t (np := 34) (l2 := [some (eR a0), some (eI (3)), some (eI (1))]) (s2 := [eI (1), eI (3), eR v2]) rfl rfl rfl ?_
        refine w_t (np := 35) (l2 := [some (eR a0), some (eI (3)), some (eI (1))]) (s2 := [eI (4), eR v2]) rfl (b_iadd rfl) rfl ?_
        refine w_cu (np := 38) (as := [eI (4)]) (l2 := [some (eI (4))]) (rest := [eR v2]) rfl rfl rfl (Nat.ble_eq.mp rfl) rfl rfl rfl rfl ?_
        refine w_t (np := 1) (l2 := [some (eI (4))]) (s2 := [eI (4)]) rfl rfl rfl ?_
        refine w_t (np := 3) (l2 := [some (eI (4))]) (s2 := [eI (10), eI (4)]) rfl rfl rfl ?_
        refine w_t (np := 4) (l2 := [some (eI (4))]) (s2 := [eI (4)]) rfl rfl rfl ?_
        refine w_t (np := 6) (l2 := [some (eI (4))]) (s2 := [eI (10), eI (4)]) rfl rfl rfl ?_
        refine w_t (np := 7) (l2 := [some (eI (4))]) (s2 := [eI (14)]) rfl (b_iadd rfl) rfl ?_
        refine w_t (np := 9) (l2 := [some (eI (4))]) (s2 := [eI (10), eI (14)]) rfl rfl rfl ?_
        refine w_t (np := 10) (l2 := [some (eI (4))]) (s2 := [eI (4)]) rfl rfl rfl ?_
        refine b_ri rfl rfl ?_
        show ex_q (dt_fg L ρ) rc (d + 1, (327, 38, [some (eR a0), some (eI (3)), some (eI (1))], [eI (4), eR v2]), f :: F, μ)
        refine j_b3 (np := 39) rfl rfl hI b4 (by decide) (n := 10) rfl rfl (lo := 0) (hi := 1) (fun _ => rfl) (by decide) (by decide) ?_
        intro v14 e15 b16
        refine b_ine (t1 := 48) (t2 := 42) rfl rfl rfl (ev_w_in (by omega) (by omega)) (fun g17 => ?_) (fun g17 => ?_)
        · have b18 : 1 ≤ v14 ∧ v14 ≤ 1 := by omega
          refine w_t (np := 49) (l2 := [some (eR a0), some (eI (3)), some (eI (1))]) (s2 := [eI (1)]) rfl rfl rfl ?_
          exact b_ri rfl rfl (K (1) (by decide) (gG_e (gG_c (r := μ.1 v2) (d := 3) (show μ.1 v2 3 = 0 from (e7).trans (by omega)) (fun z9 => by have z8 := (show μ.1 v2 2 = v10 from e11); have z7 : μ.1 v2 2 = 0 := z9; omega) (gN_e (fun z9 => by have z8 := (show μ.1 v2 4 = v14 from e15); have z7 : μ.1 v2 4 = 0 := z9; omega) rfl)) e3))
        · have b18 : 0 ≤ v14 ∧ v14 ≤ 0 := by omega
          refine w_t (np := 45) (l2 := [some (eR a0), some (eI (3)), some (eI (2))]) (s2 := []) rfl (b_iinc rfl rfl rfl) rfl ?_
          refine w_go (t1 := 28) rfl rfl ?_
          refine w_t (np := 29) (l2 := [some (eR a0), some (eI (3)), some (eI (2))]) (s2 := [eR a0]) rfl (s_an rfl (pos_g hI gA0 (by decide))) rfl ?_
          refine w_gf (np := 32) (v := eR v2) rfl rfl (hI.kd gA0 (by decide) (n := 69) rfl) (by rw [e3]; rfl) ?_
          refine w_t (np := 33) (l2 := [some (eR a0), some (eI (3)), some (eI (2))]) (s2 := [eI (3), eR v2]) rfl rfl rfl ?_
          refine w_t (np := 34) (l2 := [some (eR a0), some (eI (3)), some (eI (2))]) (s2 := [eI (2), eI (3), eR v2]) rfl rfl rfl ?_
          refine w_t (np := 35) (l2 := [some (eR a0), some (eI (3)), some (eI (2))]) (s2 := [eI (5), eR v2]) rfl (b_iadd rfl) rfl ?_
          refine w_cu (np := 38) (as := [eI (5)]) (l2 := [some (eI (5))]) (rest := [eR v2]) rfl rfl rfl (Nat.ble_eq.mp rfl) rfl rfl rfl rfl ?_
          refine w_t (np := 1) (l2 := [some (eI (5))]) (s2 := [eI (5)]) rfl rfl rfl ?_
          refine w_t (np := 3) (l2 := [some (eI (5))]) (s2 := [eI (10), eI (5)]) rfl rfl rfl ?_
          refine w_t (np := 4) (l2 := [some (eI (5))]) (s2 := [eI (5)]) rfl rfl rfl ?_
          refine w_t (np := 6) (l2 := [some (eI (5))]) (s2 := [eI (10), eI (5)]) rfl rfl rfl ?_
          refine w_t (np := 7) (l2 := [some (eI (5))]) (s2 := [eI (15)]) rfl (b_iadd rfl) rfl ?_
          refine w_t (np := 9) (l2 := [some (eI (5))]) (s2 := [eI (10), eI (15)]) rfl rfl rfl ?_
          refine w_t (np := 10) (l2 := [some (eI (5))]) (s2 := [eI (5)]) rfl rfl rfl ?_
          refine b_ri rfl rfl ?_
          show ex_q (dt_fg L ρ) rc (d + 1, (327, 38, [some (eR a0), some (eI (3)), some (eI (2))], [eI (5), eR v2]), f :: F, μ)
          refine j_b3 (np := 39) rfl rfl hI b4 (by decide) (n := 10) rfl rfl (lo := 0) (hi := 1) (fun _ => rfl) (by decide) (by decide) ?_
          intro v18 e19 b20
          refine b_ine (t1 := 48) (t2 := 42) rfl rfl rfl (ev_w_in (by omega) (by omega)) (fun g21 => ?_) (fun g21 => ?_)
          · have b22 : 1 ≤ v18 ∧ v18 ≤ 1 := by omega
            refine w_t (np := 49) (l2 := [some (eR a0), some (eI (3)), some (eI (2))]) (s2 := [eI (2)]) rfl rfl rfl ?_
            exact b_ri rfl rfl (K (2) (by decide) (gG_e (gG_c (r := μ.1 v2) (d := 3) (show μ.1 v2 3 = 0 from (e7).trans (by omega)) (fun z9 => by have z8 := (show μ.1 v2 2 = v10 from e11); have z7 : μ.1 v2 2 = 0 := z9; omega) (gN_s (show μ.1 v2 4 = 0 from (e15).trans (by omega)) (gN_e (fun z9 => by have z8 := (show μ.1 v2 5 = v18 from e19); have z7 : μ.1 v2 5 = 0 := z9; omega) rfl))) e3))
          · have b22 : 0 ≤ v18 ∧ v18 ≤ 0 := by omega
            refine w_t (np := 45) (l2 := [some (eR a0), some (eI (3)), some (eI (3))]) (s2 := []) rfl (b_iinc rfl rfl rfl) rfl ?_
            refine w_go (t1 := 28) rfl rfl ?_
            refine w_t (np := 29) (l2 := [some (eR a0), some (eI (3)), some (eI (3))]) (s2 := [eR a0]) rfl (s_an rfl (pos_g hI gA0 (by decide))) rfl ?_
            refine w_gf (np := 32) (v := eR v2) rfl rfl (hI.kd gA0 (by decide) (n := 69) rfl) (by rw [e3]; rfl) ?_
            refine w_t (np := 33) (l2 := [some (eR a0), some (eI (3)), some (eI (3))]) (s2 := [eI (3), eR v2]) rfl rfl rfl ?_
            refine w_t (np := 34) (l2 := [some (eR a0), some (eI (3)), some (eI (3))]) (s2 := [eI (3), eI (3), eR v2]) rfl rfl rfl ?_
            refine w_t (np := 35) (l2 := [some (eR a0), some (eI (3)), some (eI (3))]) (s2 := [eI (6), eR v2]) rfl (b_iadd rfl) rfl ?_
            refine w_cu (np := 38) (as := [eI (6)]) (l2 := [some (eI (6))]) (rest := [eR v2]) rfl rfl rfl (Nat.ble_eq.mp rfl) rfl rfl rfl rfl ?_
            refine w_t (np := 1) (l2 := [some (eI (6))]) (s2 := [eI (6)]) rfl rfl rfl ?_
            refine w_t (np := 3) (l2 := [some (eI (6))]) (s2 := [eI (10), eI (6)]) rfl rfl rfl ?_
            refine w_t (np := 4) (l2 := [some (eI (6))]) (s2 := [eI (6)]) rfl rfl rfl ?_
            refine w_t (np := 6) (l2 := [some (eI (6))]) (s2 := [eI (10), eI (6)]) rfl rfl rfl ?_
            refine w_t (np := 7) (l2 := [some (eI (6))]) (s2 := [eI (16)]) rfl (b_iadd rfl) rfl ?_
            refine w_t (np := 9) (l2 := [some (eI (6))]) (s2 := [eI (10), eI (16)]) rfl rfl rfl ?_
            refine w_t (np := 10) (l2 := [some (eI (6))]) (s2 := [eI (6)]) rfl rfl rfl ?_
            refine b_ri rfl rfl ?_
            show ex_q (dt_fg L ρ) rc (d + 1, (327, 38, [some (eR a0), some (eI (3)), some (eI (3))], [eI (6), eR v2]), f :: F, μ)
            refine j_b3 (np := 39) rfl rfl hI b4 (by decide) (n := 10) rfl rfl (lo := 0) (hi := 1) (fun _ => rfl) (by decide) (by decide) ?_
            intro v22 e23 b24
            refine b_ine (t1 := 48) (t2 := 42) rfl rfl rfl (ev_w_in (by omega) (by omega)) (fun g25 => ?_) (fun g25 => ?_)
            · have b26 : 1 ≤ v22 ∧ v22 ≤ 1 := by omega
              refine w_t (np := 49) (l2 := [some (eR a0), some (eI (3)), some (eI (3))]) (s2 := [eI (3)]) rfl rfl rfl ?_
              exact b_ri rfl rfl (K (3) (by decide) (gG_e (gG_c (r := μ.1 v2) (d := 3) (show μ.1 v2 3 = 0 from (e7).trans (by omega)) (fun z9 => by have z8 := (show μ.1 v2 2 = v10 from e11); have z7 : μ.1 v2 2 = 0 := z9; omega) (gN_s (show μ.1 v2 4 = 0 from (e15).trans (by omega)) (gN_s (show μ.1 v2 5 = 0 from (e19).trans (by omega)) (gN_e (fun z9 => by have z8 := (show μ.1 v2 6 = v22 from e23); have z7 : μ.1 v2 6 = 0 := z9; omega) rfl)))) e3))
            · have b26 : 0 ≤ v22 ∧ v22 ≤ 0 := by omega
              refine w_t (np := 45) (l2 := [some (eR a0), some (eI (3)), some (eI (4))]) (s2 := []) rfl (b_iinc rfl rfl rfl) rfl ?_
              refine w_go (t1 := 28) rfl rfl ?_
              refine w_t (np := 29) (l2 := [some (eR a0), some (eI (3)), some (eI (4))]) (s2 := [eR a0]) rfl (s_an rfl (pos_g hI gA0 (by decide))) rfl ?_
              refine w_gf (np := 32) (v := eR v2) rfl rfl (hI.kd gA0 (by decide) (n := 69) rfl) (by rw [e3]; rfl) ?_
              refine w_t (np := 33) (l2 := [some (eR a0), some (eI (3)), some (eI (4))]) (s2 := [eI (3), eR v2]) rfl rfl rfl ?_
              refine w_t (np := 34) (l2 := [some (eR a0), some (eI (3)), some (eI (4))]) (s2 := [eI (4), eI (3), eR v2]) rfl rfl rfl ?_
              refine w_t (np := 35) (l2 := [some (eR a0), some (eI (3)), some (eI (4))]) (s2 := [eI (7), eR v2]) rfl (b_iadd rfl) rfl ?_
              refine w_cu (np := 38) (as := [eI (7)]) (l2 := [some (eI (7))]) (rest := [eR v2]) rfl rfl rfl (Nat.ble_eq.mp rfl) rfl rfl rfl rfl ?_
              refine w_t (np := 1) (l2 := [some (eI (7))]) (s2 := [eI (7)]) rfl rfl rfl ?_
              refine w_t (np := 3) (l2 := [some (eI (7))]) (s2 := [eI (10), eI (7)]) rfl rfl rfl ?_
              refine w_t (np := 4) (l2 := [some (eI (7))]) (s2 := [eI (7)]) rfl rfl rfl ?_
              refine w_t (np := 6) (l2 := [some (eI (7))]) (s2 := [eI (10), eI (7)]) rfl rfl rfl ?_
              refine w_t (np := 7) (l2 := [some (eI (7))]) (s2 := [eI (17)]) rfl (b_iadd rfl) rfl ?_
              refine w_t (np := 9) (l2 := [some (eI (7))]) (s2 := [eI (10), eI (17)]) rfl rfl rfl ?_
              refine w_t (np := 10) (l2 := [some (eI (7))]) (s2 := [eI (7)]) rfl rfl rfl ?_
              refine b_ri rfl rfl ?_
              show ex_q (dt_fg L ρ) rc (d + 1, (327, 38, [some (eR a0), some (eI (3)), some (eI (4))], [eI (7), eR v2]), f :: F, μ)
              refine j_b3 (np := 39) rfl rfl hI b4 (by decide) (n := 10) rfl rfl (lo := 0) (hi := 1) (fun _ => rfl) (by decide) (by decide) ?_
              intro v26 e27 b28
              refine b_ine (t1 := 48) (t2 := 42) rfl rfl rfl (ev_w_in (by omega) (by omega)) (fun g29 => ?_) (fun g29 => ?_)
              · have b30 : 1 ≤ v26 ∧ v26 ≤ 1 := by omega
                refine w_t (np := 49) (l2 := [some (eR a0), some (eI (3)), some (eI (4))]) (s2 := [eI (4)]) rfl rfl rfl ?_
                exact b_ri rfl rfl (K (4) (by decide) (gG_e (gG_c (r := μ.1 v2) (d := 3) (show μ.1 v2 3 = 0 from (e7).trans (by omega)) (fun z9 => by have z8 := (show μ.1 v2 2 = v10 from e11); have z7 : μ.1 v2 2 = 0 := z9; omega) (gN_s (show μ.1 v2 4 = 0 from (e15).trans (by omega)) (gN_s (show μ.1 v2 5 = 0 from (e19).trans (by omega)) (gN_s (show μ.1 v2 6 = 0 from (e23).trans (by omega)) (gN_e (fun z9 => by have z8 := (show μ.1 v2 7 = v26 from e27); have z7 : μ.1 v2 7 = 0 := z9; omega) rfl))))) e3))
              · have b30 : 0 ≤ v26 ∧ v26 ≤ 0 := by omega
                refine w_t (np := 45) (l2 := [some (eR a0), some (eI (3)), some (eI (5))]) (s2 := []) rfl (b_iinc rfl rfl rfl) rfl ?_
                refine w_go (t1 := 28) rfl rfl ?_
                refine w_t (np := 29) (l2 := [some (eR a0), some (eI (3)), some (eI (5))]) (s2 := [eR a0]) rfl (s_an rfl (pos_g hI gA0 (by decide))) rfl ?_
                refine w_gf (np := 32) (v := eR v2) rfl rfl (hI.kd gA0 (by decide) (n := 69) rfl) (by rw [e3]; rfl) ?_
                refine w_t (np := 33) (l2 := [some (eR a0), some (eI (3)), some (eI (5))]) (s2 := [eI (3), eR v2]) rfl rfl rfl ?_
                refine w_t (np := 34) (l2 := [some (eR a0), some (eI (3)), some (eI (5))]) (s2 := [eI (5), eI (3), eR v2]) rfl rfl rfl ?_
                refine w_t (np := 35) (l2 := [some (eR a0), some (eI (3)), some (eI (5))]) (s2 := [eI (8), eR v2]) rfl (b_iadd rfl) rfl ?_
                refine w_cu (np := 38) (as := [eI (8)]) (l2 := [some (eI (8))]) (rest := [eR v2]) rfl rfl rfl (Nat.ble_eq.mp rfl) rfl rfl rfl rfl ?_
                refine w_t (np := 1) (l2 := [some (eI (8))]) (s2 := [eI (8)]) rfl rfl rfl ?_
                refine w_t (np := 3) (l2 := [some (eI (8))]) (s2 := [eI (10), eI (8)]) rfl rfl rfl ?_
                refine w_t (np := 4) (l2 := [some (eI (8))]) (s2 := [eI (8)]) rfl rfl rfl ?_
                refine w_t (np := 6) (l2 := [some (eI (8))]) (s2 := [eI (10), eI (8)]) rfl rfl rfl ?_
                refine w_t (np := 7) (l2 := [some (eI (8))]) (s2 := [eI (18)]) rfl (b_iadd rfl) rfl ?_
                refine w_t (np := 9) (l2 := [some (eI (8))]) (s2 := [eI (10), eI (18)]) rfl rfl rfl ?_
                refine w_t (np := 10) (l2 := [some (eI (8))]) (s2 := [eI (8)]) rfl rfl rfl ?_
                refine b_ri rfl rfl ?_
                show ex_q (dt_fg L ρ) rc (d + 1, (327, 38, [some (eR a0), some (eI (3)), some (eI (5))], [eI (8), eR v2]), f :: F, μ)
                refine j_b3 (np := 39) rfl rfl hI b4 (by decide) (n := 10) rfl rfl (lo := 0) (hi := 1) (fun _ => rfl) (by decide) (by decide) ?_
                intro v30 e31 b32
                refine b_ine (t1 := 48) (t2 := 42) rfl rfl rfl (ev_w_in (by omega) (by omega)) (fun g33 => ?_) (fun g33 => ?_)
                · have b34 : 1 ≤ v30 ∧ v30 ≤ 1 := by omega
                  refine w_t (np := 49) (l2 := [some (eR a0), some (eI (3)), some (eI (5))]) (s2 := [eI (5)]) rfl rfl rfl ?_
                  exact b_ri rfl rfl (K (5) (by decide) (gG_e (gG_c (r := μ.1 v2) (d := 3) (show μ.1 v2 3 = 0 from (e7).trans (by omega)) (fun z9 => by have z8 := (show μ.1 v2 2 = v10 from e11); have z7 : μ.1 v2 2 = 0 := z9; omega) (gN_s (show μ.1 v2 4 = 0 from (e15).trans (by omega)) (gN_s (show μ.1 v2 5 = 0 from (e19).trans (by omega)) (gN_s (show μ.1 v2 6 = 0 from (e23).trans (by omega)) (gN_s (show μ.1 v2 7 = 0 from (e27).trans (by omega)) (gN_e (fun z9 => by have z8 := (show μ.1 v2 8 = v30 from e31); have z7 : μ.1 v2 8 = 0 := z9; omega) rfl)))))) e3))
                · have b34 : 0 ≤ v30 ∧ v30 ≤ 0 := by omega
                  refine w_t (np := 45) (l2 := [some (eR a0), some (eI (3)), some (eI (6))]) (s2 := []) rfl (b_iinc rfl rfl rfl) rfl ?_
                  refine w_go (t1 := 28) rfl rfl ?_
                  refine w_t (np := 29) (l2 := [some (eR a0), some (eI (3)), some (eI (6))]) (s2 := [eR a0]) rfl (s_an rfl (pos_g hI gA0 (by decide))) rfl ?_
                  refine w_gf (np := 32) (v := eR v2) rfl rfl (hI.kd gA0 (by decide) (n := 69) rfl) (by rw [e3]; rfl) ?_
                  refine w_t (np := 33) (l2 := [some (eR a0), some (eI (3)), some (eI (6))]) (s2 := [eI (3), eR v2]) rfl rfl rfl ?_
                  refine w_t (np := 34) (l2 := [some (eR a0), some (eI (3)), some (eI (6))]) (s2 := [eI (6), eI (3), eR v2]) rfl rfl rfl ?_
                  refine w_t (np := 35) (l2 := [some (eR a0), some (eI (3)), some (eI (6))]) (s2 := [eI (9), eR v2]) rfl (b_iadd rfl) rfl ?_
                  refine w_cu (np := 38) (as := [eI (9)]) (l2 := [some (eI (9))]) (rest := [eR v2]) rfl rfl rfl (Nat.ble_eq.mp rfl) rfl rfl rfl rfl ?_
                  refine w_t (np := 1) (l2 := [some (eI (9))]) (s2 := [eI (9)]) rfl rfl rfl ?_
                  refine w_t (np := 3) (l2 := [some (eI (9))]) (s2 := [eI (10), eI (9)]) rfl rfl rfl ?_
                  refine w_t (np := 4) (l2 := [some (eI (9))]) (s2 := [eI (9)]) rfl rfl rfl ?_
                  refine w_t (np := 6) (l2 := [some (eI (9))]) (s2 := [eI (10), eI (9)]) rfl rfl rfl ?_
                  refine w_t (np := 7) (l2 := [some (eI (9))]) (s2 := [eI (19)]) rfl (b_iadd rfl) rfl ?_
                  refine w_t (np := 9) (l2 := [some (eI (9))]) (s2 := [eI (10), eI (19)]) rfl rfl rfl ?_
                  refine w_t (np := 10) (l2 := [some (eI (9))]) (s2 := [eI (9)]) rfl rfl rfl ?_
                  refine b_ri rfl rfl ?_
                  show ex_q (dt_fg L ρ) rc (d + 1, (327, 38, [some (eR a0), some (eI (3)), some (eI (6))], [eI (9), eR v2]), f :: F, μ)
                  refine j_b3 (np := 39) rfl rfl hI b4 (by decide) (n := 10) rfl rfl (lo := 0) (hi := 1) (fun _ => rfl) (by decide) (by decide) ?_
                  intro v34 e35 b36
                  refine b_ine (t1 := 48) (t2 := 42) rfl rfl rfl (ev_w_in (by omega) (by omega)) (fun g37 => ?_) (fun g37 => ?_)
                  · have b38 : 1 ≤ v34 ∧ v34 ≤ 1 := by omega
                    refine w_t (np := 49) (l2 := [some (eR a0), some (eI (3)), some (eI (6))]) (s2 := [eI (6)]) rfl rfl rfl ?_
                    exact b_ri rfl rfl (K (6) (by decide) (gG_e (gG_c (r := μ.1 v2) (d := 3) (show μ.1 v2 3 = 0 from (e7).trans (by omega)) (fun z9 => by have z8 := (show μ.1 v2 2 = v10 from e11); have z7 : μ.1 v2 2 = 0 := z9; omega) (gN_s (show μ.1 v2 4 = 0 from (e15).trans (by omega)) (gN_s (show μ.1 v2 5 = 0 from (e19).trans (by omega)) (gN_s (show μ.1 v2 6 = 0 from (e23).trans (by omega)) (gN_s (show μ.1 v2 7 = 0 from (e27).trans (by omega)) (gN_s (show μ.1 v2 8 = 0 from (e31).trans (by omega)) (gN_e (fun z9 => by have z8 := (show μ.1 v2 9 = v34 from e35); have z7 : μ.1 v2 9 = 0 := z9; omega) rfl))))))) e3))
                  · have b38 : 0 ≤ v34 ∧ v34 ≤ 0 := by omega
                    refine w_t (np := 45) (l2 := [some (eR a0), some (eI (3)), some (eI (7))]) (s2 := []) rfl (b_iinc rfl rfl rfl) rfl ?_
                    refine w_go (t1 := 28) rfl rfl ?_
                    refine w_t (np := 29) (l2 := [some (eR a0), some (eI (3)), some (eI (7))]) (s2 := [eR a0]) rfl (s_an rfl (pos_g hI gA0 (by decide))) rfl ?_
                    refine w_gf (np := 32) (v := eR v2) rfl rfl (hI.kd gA0 (by decide) (n := 69) rfl) (by rw [e3]; rfl) ?_
                    refine w_t (np := 33) (l2 := [some (eR a0), some (eI (3)), some (eI (7))]) (s2 := [eI (3), eR v2]) rfl rfl rfl ?_
                    refine w_t (np := 34) (l2 := [some (eR a0), some (eI (3)), some (eI (7))]) (s2 := [eI (7), eI (3), eR v2]) rfl rfl rfl ?_
                    refine w_t (np := 35) (l2 := [some (eR a0), some (eI (3)), some (eI (7))]) (s2 := [eI (10), eR v2]) rfl (b_iadd rfl) rfl ?_
                    refine w_cu (np := 38) (as := [eI (10)]) (l2 := [some (eI (10))]) (rest := [eR v2]) rfl rfl rfl (Nat.ble_eq.mp rfl) rfl rfl rfl rfl ?_
                    refine w_t (np := 1) (l2 := [some (eI (10))]) (s2 := [eI (10)]) rfl rfl rfl ?_
                    refine w_t (np := 3) (l2 := [some (eI (10))]) (s2 := [eI (10), eI (10)]) rfl rfl rfl ?_
                    refine w_t (np := 4) (l2 := [some (eI (10))]) (s2 := [eI (0)]) rfl rfl rfl ?_
                    refine w_t (np := 6) (l2 := [some (eI (10))]) (s2 := [eI (10), eI (0)]) rfl rfl rfl ?_
                    refine w_t (np := 7) (l2 := [some (eI (10))]) (s2 := [eI (10)]) rfl (b_iadd rfl) rfl ?_
                    refine w_t (np := 9) (l2 := [some (eI (10))]) (s2 := [eI (10), eI (10)]) rfl rfl rfl ?_
                    refine w_t (np := 10) (l2 := [some (eI (10))]) (s2 := [eI (0)]) rfl rfl rfl ?_
                    refine b_ri rfl rfl ?_
                    show ex_q (dt_fg L ρ) rc (d + 1, (327, 38, [some (eR a0), some (eI (3)), some (eI (7))], [eI (0), eR v2]), f :: F, μ)
                    refine j_b3 (np := 39) rfl rfl hI b4 (by decide) (n := 10) rfl rfl (lo := 0) (hi := 1) (fun _ => rfl) (by decide) (by decide) ?_
                    intro v38 e39 b40
                    refine b_ine (t1 := 48) (t2 := 42) rfl rfl rfl (ev_w_in (by omega) (by omega)) (fun g41 => ?_) (fun g41 => ?_)
                    · have b42 : 1 ≤ v38 ∧ v38 ≤ 1 := by omega
                      refine w_t (np := 49) (l2 := [some (eR a0), some (eI (3)), some (eI (7))]) (s2 := [eI (7)]) rfl rfl rfl ?_
                      exact b_ri rfl rfl (K (7) (by decide) (gG_e (gG_c (r := μ.1 v2) (d := 3) (show μ.1 v2 3 = 0 from (e7).trans (by omega)) (fun z9 => by have z8 := (show μ.1 v2 2 = v10 from e11); have z7 : μ.1 v2 2 = 0 := z9; omega) (gN_s (show μ.1 v2 4 = 0 from (e15).trans (by omega)) (gN_s (show μ.1 v2 5 = 0 from (e19).trans (by omega)) (gN_s (show μ.1 v2 6 = 0 from (e23).trans (by omega)) (gN_s (show μ.1 v2 7 = 0 from (e27).trans (by omega)) (gN_s (show μ.1 v2 8 = 0 from (e31).trans (by omega)) (gN_s (show μ.1 v2 9 = 0 from (e35).trans (by omega)) (gN_e (fun z9 => by have z8 := (show μ.1 v2 0 = v38 from e39); have z7 : μ.1 v2 0 = 0 := z9; omega) rfl)))))))) e3))
                    · have b42 : 0 ≤ v38 ∧ v38 ≤ 0 := by omega
                      refine w_t (np := 45) (l2 := [some (eR a0), some (eI (3)), some (eI (8))]) (s2 := []) rfl (b_iinc rfl rfl rfl) rfl ?_
                      refine w_go (t1 := 28) rfl rfl ?_
                      refine w_t (np := 29) (l2 := [some (eR a0), some (eI (3)), some (eI (8))]) (s2 := [eR a0]) rfl (s_an rfl (pos_g hI gA0 (by decide))) rfl ?_
                      refine w_gf (np := 32) (v := eR v2) rfl rfl (hI.kd gA0 (by decide) (n := 69) rfl) (by rw [e3]; rfl) ?_
                      refine w_t (np := 33) (l2 := [some (eR a0), some (eI (3)), some (eI (8))]) (s2 := [eI (3), eR v2]) rfl rfl rfl ?_
                      refine w_t (np := 34) (l2 := [some (eR a0), some (eI (3)), some (eI (8))]) (s2 := [eI (8), eI (3), eR v2]) rfl rfl rfl ?_
                      refine w_t (np := 35) (l2 := [some (eR a0), some (eI (3)), some (eI (8))]) (s2 := [eI (11), eR v2]) rfl (b_iadd rfl) rfl ?_
                      refine w_cu (np := 38) (as := [eI (11)]) (l2 := [some (eI (11))]) (rest := [eR v2]) rfl rfl rfl (Nat.ble_eq.mp rfl) rfl rfl rfl rfl ?_
                      refine w_t (np := 1) (l2 := [some (eI (11))]) (s2 := [eI (11)]) rfl rfl rfl ?_
                      refine w_t (np := 3) (l2 := [some (eI (11))]) (s2 := [eI (10), eI (11)]) rfl rfl rfl ?_
                      refine w_t (np := 4) (l2 := [some (eI (11))]) (s2 := [eI (1)]) rfl rfl rfl ?_
                      refine w_t (np := 6) (l2 := [some (eI (11))]) (s2 := [eI (10), eI (1)]) rfl rfl rfl ?_
                      refine w_t (np := 7) (l2 := [some (eI (11))]) (s2 := [eI (11)]) rfl (b_iadd rfl) rfl ?_
                      refine w_t (np := 9) (l2 := [some (eI (11))]) (s2 := [eI (10), eI (11)]) rfl rfl rfl ?_
                      refine w_t (np := 10) (l2 := [some (eI (11))]) (s2 := [eI (1)]) rfl rfl rfl ?_
                      refine b_ri rfl rfl ?_
                      show ex_q (dt_fg L ρ) rc (d + 1, (327, 38, [some (eR a0), some (eI (3)), some (eI (8))], [eI (1), eR v2]), f :: F, μ)
                      refine j_b3 (np := 39) rfl rfl hI b4 (by decide) (n := 10) rfl rfl (lo := 0) (hi := 1) (fun _ => rfl) (by decide) (by decide) ?_
                      intro v42 e43 b44
                      refine b_ine (t1 := 48) (t2 := 42) rfl rfl rfl (ev_w_in (by omega) (by omega)) (fun g45 => ?_) (fun g45 => ?_)
                      · have b46 : 1 ≤ v42 ∧ v42 ≤ 1 := by omega
                        refine w_t (np := 49) (l2 := [some (eR a0), some (eI (3)), some (eI (8))]) (s2 := [eI (8)]) rfl rfl rfl ?_
                        exact b_ri rfl rfl (K (8) (by decide) (gG_e (gG_c (r := μ.1 v2) (d := 3) (show μ.1 v2 3 = 0 from (e7).trans (by omega)) (fun z9 => by have z8 := (show μ.1 v2 2 = v10 from e11); have z7 : μ.1 v2 2 = 0 := z9; omega) (gN_s (show μ.1 v2 4 = 0 from (e15).trans (by omega)) (gN_s (show μ.1 v2 5 = 0 from (e19).trans (by omega)) (gN_s (show μ.1 v2 6 = 0 from (e23).trans (by omega)) (gN_s (show μ.1 v2 7 = 0 from (e27).trans (by omega)) (gN_s (show μ.1 v2 8 = 0 from (e31).trans (by omega)) (gN_s (show μ.1 v2 9 = 0 from (e35).trans (by omega)) (gN_s (show μ.1 v2 0 = 0 from (e39).trans (by omega)) (gN_e (fun z9 => by have z8 := (show μ.1 v2 1 = v42 from e43); have z7 : μ.1 v2 1 = 0 := z9; omega) rfl))))))))) e3))
                      · have b46 : 0 ≤ v42 ∧ v42 ≤ 0 := by omega
                        refine w_t (np := 45) (l2 := [some (eR a0), some (eI (3)), some (eI (9))]) (s2 := []) rfl (b_iinc rfl rfl rfl) rfl ?_
                        refine w_go (t1 := 28) rfl rfl ?_
                        refine w_t (np := 29) (l2 := [some (eR a0), some (eI (3)), some (eI (9))]) (s2 := [eR a0]) rfl (s_an rfl (pos_g hI gA0 (by decide))) rfl ?_
                        refine w_gf (np := 32) (v := eR v2) rfl rfl (hI.kd gA0 (by decide) (n := 69) rfl) (by rw [e3]; rfl) ?_
                        refine w_t (np := 33) (l2 := [some (eR a0), some (eI (3)), some (eI (9))]) (s2 := [eI (3), eR v2]) rfl rfl rfl ?_
                        refine w_t (np := 34) (l2 := [some (eR a0), some (eI (3)), some (eI (9))]) (s2 := [eI (9), eI (3), eR v2]) rfl rfl rfl ?_
                        refine w_t (np := 35) (l2 := [some (eR a0), some (eI (3)), some (eI (9))]) (s2 := [eI (12), eR v2]) rfl (b_iadd rfl) rfl ?_
                        refine w_cu (np := 38) (as := [eI (12)]) (l2 := [some (eI (12))]) (rest := [eR v2]) rfl rfl rfl (Nat.ble_eq.mp rfl) rfl rfl rfl rfl ?_
                        refine w_t (np := 1) (l2 := [some (eI (12))]) (s2 := [eI (12)]) rfl rfl rfl ?_
                        refine w_t (np := 3) (l2 := [some (eI (12))]) (s2 := [eI (10), eI (12)]) rfl rfl rfl ?_
                        refine w_t (np := 4) (l2 := [some (eI (12))]) (s2 := [eI (2)]) rfl rfl rfl ?_
                        refine w_t (np := 6) (l2 := [some (eI (12))]) (s2 := [eI (10), eI (2)]) rfl rfl rfl ?_
                        refine w_t (np := 7) (l2 := [some (eI (12))]) (s2 := [eI (12)]) rfl (b_iadd rfl) rfl ?_
                        refine w_t (np := 9) (l2 := [some (eI (12))]) (s2 := [eI (10), eI (12)]) rfl rfl rfl ?_
                        refine w_t (np := 10) (l2 := [some (eI (12))]) (s2 := [eI (2)]) rfl rfl rfl ?_
                        refine b_ri rfl rfl ?_
                        show ex_q (dt_fg L ρ) rc (d + 1, (327, 38, [some (eR a0), some (eI (3)), some (eI (9))], [eI (2), eR v2]), f :: F, μ)
                        refine j_b3 (np := 39) rfl rfl hI b4 (by decide) (n := 10) rfl rfl (lo := 0) (hi := 1) (fun _ => rfl) (by decide) (by decide) ?_
                        intro v46 e47 b48
                        have e47 := e47.symm.trans e11
                        rw [e47]
                        refine b_ine (t1 := 48) (t2 := 42) rfl rfl rfl (ev_w_in (by omega) (by omega)) (fun g49 => ?_) (fun g49 => False.elim (by omega))
                        refine w_t (np := 49) (l2 := [some (eR a0), some (eI (3)), some (eI (9))]) (s2 := [eI (9)]) rfl rfl rfl ?_
                        exact b_ri rfl rfl (K (9) (by decide) (gG_e (gG_c (r := μ.1 v2) (d := 3) (show μ.1 v2 3 = 0 from (e7).trans (by omega)) (fun z9 => by have z8 := (show μ.1 v2 2 = v10 from e11); have z7 : μ.1 v2 2 = 0 := z9; omega) (gN_s (show μ.1 v2 4 = 0 from (e15).trans (by omega)) (gN_s (show μ.1 v2 5 = 0 from (e19).trans (by omega)) (gN_s (show μ.1 v2 6 = 0 from (e23).trans (by omega)) (gN_s (show μ.1 v2 7 = 0 from (e27).trans (by omega)) (gN_s (show μ.1 v2 8 = 0 from (e31).trans (by omega)) (gN_s (show μ.1 v2 9 = 0 from (e35).trans (by omega)) (gN_s (show μ.1 v2 0 = 0 from (e39).trans (by omega)) (gN_s (show μ.1 v2 1 = 0 from (e43).trans (by omega)) rfl))))))))) e3))
      · have b14 : 0 ≤ v10 ∧ v10 ≤ 0 := by omega
        refine w_t (np := 25) (l2 := [some (eR a0), some (eI (3)), none]) (s2 := [eI (0)]) rfl rfl rfl ?_
        exact b_ri rfl rfl (K (0) (by decide) (gG_e (gG_b (r := μ.1 v2) (d := 3) (show μ.1 v2 3 = 0 from (e7).trans (by omega)) (show μ.1 v2 2 = 0 from (e11).trans (by omega))) e3))
  · subst g1
    refine w_t (np := 1) (l2 := [some (eR a0), some (eI (4)), none]) (s2 := [eR a0]) rfl (s_an rfl (pos_g hI gA0 (by decide))) rfl ?_
    refine j_gr (np := 4) rfl rfl hI gA0 (by decide) (n := 69) rfl rfl rfl ?_
    intro v2 e3 b4 z5
    have b4 : g v2 = 85 := Nat.eq_of_beq_eq_true b4
    refine w_t (np := 5) (l2 := [some (eR a0), some (eI (4)), none]) (s2 := [eI (4), eR v2]) rfl rfl rfl ?_
    refine j_b3 (np := 6) rfl rfl hI b4 (by decide) (n := 10) rfl rfl (lo := 0) (hi := 1) (fun _ => rfl) (by decide) (by decide) ?_
    intro v6 e7 b8
    refine b_ine (t1 := 24) (t2 := 9) rfl rfl rfl (ev_w_in (by omega) (by omega)) (fun g9 => ?_) (fun g9 => ?_)
    · have b10 : 1 ≤ v6 ∧ v6 ≤ 1 := by omega
      refine w_t (np := 25) (l2 := [some (eR a0), some (eI (4)), none]) (s2 := [eI (0)]) rfl rfl rfl ?_
      exact b_ri rfl rfl (K (0) (by decide) (gG_e (gG_a (r := μ.1 v2) (d := 4) (fun z9 => by have z8 := (show μ.1 v2 4 = v6 from e7); have z7 : μ.1 v2 4 = 0 := z9; omega)) e3))
    · have b10 : 0 ≤ v6 ∧ v6 ≤ 0 := by omega
      refine w_t (np := 10) (l2 := [some (eR a0), some (eI (4)), none]) (s2 := [eR a0]) rfl (s_an rfl (pos_g hI gA0 (by decide))) rfl ?_
      refine w_gf (np := 13) (v := eR v2) rfl rfl (hI.kd gA0 (by decide) (n := 69) rfl) (by rw [e3]; rfl) ?_
      refine w_t (np := 14) (l2 := [some (eR a0), some (eI (4)), none]) (s2 := [eI (4), eR v2]) rfl rfl rfl ?_
      refine w_t (np := 16) (l2 := [some (eR a0), some (eI (4)), none]) (s2 := [eI (9), eI (4), eR v2]) rfl rfl rfl ?_
      refine w_t (np := 17) (l2 := [some (eR a0), some (eI (4)), none]) (s2 := [eI (13), eR v2]) rfl (b_iadd rfl) rfl ?_
      refine w_cu (np := 20) (as := [eI (13)]) (l2 := [some (eI (13))]) (rest := [eR v2]) rfl rfl rfl (Nat.ble_eq.mp rfl) rfl rfl rfl rfl ?_
      refine w_t (np := 1) (l2 := [some (eI (13))]) (s2 := [eI (13)]) rfl rfl rfl ?_
      refine w_t (np := 3) (l2 := [some (eI (13))]) (s2 := [eI (10), eI (13)]) rfl rfl rfl ?_
      refine w_t (np := 4) (l2 := [some (eI (13))]) (s2 := [eI (3)]) rfl rfl rfl ?_
      refine w_t (np := 6) (l2 := [some (eI (13))]) (s2 := [eI (10), eI (3)]) rfl rfl rfl ?_
      refine w_t (np := 7) (l2 := [some (eI (13))]) (s2 := [eI (13)]) rfl (b_iadd rfl) rfl ?_
      refine w_t (np := 9) (l2 := [some (eI (13))]) (s2 := [eI (10), eI (13)]) rfl rfl rfl ?_
      refine w_t (np := 10) (l2 := [some (eI (13))]) (s2 := [eI (3)]) rfl rfl rfl ?_
      refine b_ri rfl rfl ?_
      show ex_q (dt_fg L ρ) rc (d + 1, (327, 20, [some (eR a0), some (eI (4)), none], [eI (3), eR v2]), f :: F, μ)
      refine j_b3 (np := 21) rfl rfl hI b4 (by decide) (n := 10) rfl rfl (lo := 0) (hi := 1) (fun _ => rfl) (by decide) (by decide) ?_
      intro v10 e11 b12
      refine b_ine (t1 := 26) (t2 := 24) rfl rfl rfl (ev_w_in (by omega) (by omega)) (fun g13 => ?_) (fun g13 => ?_)
      · have b14 : 1 ≤ v10 ∧ v10 ≤ 1 := by omega
        refine w_t (np := 27) (l2 := [some (eR a0), some (eI (4)), none]) (s2 := [eI (1)]) rfl rfl rfl ?_
        refine w_t (np := 28) (l2 := [some (eR a0), some (eI (4)), some (eI (1))]) (s2 := []) rfl rfl rfl ?_
        refine w_t (np := 29) (l2 := [some (eR a0), some (eI (4)), some (eI (1))]) (s2 := [eR a0]) rfl (s_an rfl (pos_g hI gA0 (by decide))) rfl ?_
        refine w_gf (np := 32) (v := eR v2) rfl rfl (hI.kd gA0 (by decide) (n := 69) rfl) (by rw [e3]; rfl) ?_
        refine w_t (np := 33) (l2 := [some (eR a0), some (eI (4)), some (eI (1))]) (s2 := [eI (4), eR v2]) rfl rfl rfl ?_
        refine w_t (np := 34) (l2 := [some (eR a0), some (eI (4)), some (eI (1))]) (s2 := [eI (1), eI (4), eR v2]) rfl rfl rfl ?_
        refine w_t (np := 35) (l2 := [some (eR a0), some (eI (4)), some (eI (1))]) (s2 := [eI (5), eR v2]) rfl (b_iadd rfl) rfl ?_
        refine w_cu (np := 38) (as := [eI (5)]) (l2 := [some (eI (5))]) (rest := [eR v2]) rfl rfl rfl (Nat.ble_eq.mp rfl) rfl rfl rfl rfl ?_
        refine w_t (np := 1) (l2 := [some (eI (5))]) (s2 := [eI (5)]) rfl rfl rfl ?_
        refine w_t (np := 3) (l2 := [some (eI (5))]) (s2 := [eI (10), eI (5)]) rfl rfl rfl ?_
        refine w_t (np := 4) (l2 := [some (eI (5))]) (s2 := [eI (5)]) rfl rfl rfl ?_
        refine w_t (np := 6) (l2 := [some (eI (5))]) (s2 := [eI (10), eI (5)]) rfl rfl rfl ?_
        refine w_t (np := 7) (l2 := [some (eI (5))]) (s2 := [eI (15)]) rfl (b_iadd rfl) rfl ?_
        refine w_t (np := 9) (l2 := [some (eI (5))]) (s2 := [eI (10), eI (15)]) rfl rfl rfl ?_
        refine w_t (np := 10) (l2 := [some (eI (5))]) (s2 := [eI (5)]) rfl rfl rfl ?_
        refine b_ri rfl rfl ?_
        show ex_q (dt_fg L ρ) rc (d + 1, (327, 38, [some (eR a0), some (eI (4)), some (eI (1))], [eI (5), eR v2]), f :: F, μ)
        refine j_b3 (np := 39) rfl rfl hI b4 (by decide) (n := 10) rfl rfl (lo := 0) (hi := 1) (fun _ => rfl) (by decide) (by decide) ?_
        intro v14 e15 b16
        refine b_ine (t1 := 48) (t2 := 42) rfl rfl rfl (ev_w_in (by omega) (by omega)) (fun g17 => ?_) (fun g17 => ?_)
        · have b18 : 1 ≤ v14 ∧ v14 ≤ 1 := by omega
          refine w_t (np := 49) (l2 := [some (eR a0), some (eI (4)), some (eI (1))]) (s2 := [eI (1)]) rfl rfl rfl ?_
          exact b_ri rfl rfl (K (1) (by decide) (gG_e (gG_c (r := μ.1 v2) (d := 4) (show μ.1 v2 4 = 0 from (e7).trans (by omega)) (fun z9 => by have z8 := (show μ.1 v2 3 = v10 from e11); have z7 : μ.1 v2 3 = 0 := z9; omega) (gN_e (fun z9 => by have z8 := (show μ.1 v2 5 = v14 from e15); have z7 : μ.1 v2 5 = 0 := z9; omega) rfl)) e3))
        · have b18 : 0 ≤ v14 ∧ v14 ≤ 0 := by omega
          refine w_t (np := 45) (l2 := [some (eR a0), some (eI (4)), some (eI (2))]) (s2 := []) rfl (b_iinc rfl rfl rfl) rfl ?_
          refine w_go (t1 := 28) rfl rfl ?_
          refine w_t (np := 29) (l2 := [some (eR a0), some (eI (4)), some (eI (2))]) (s2 := [eR a0]) rfl (s_an rfl (pos_g hI gA0 (by decide))) rfl ?_
          refine w_gf (np := 32) (v := eR v2) rfl rfl (hI.kd gA0 (by decide) (n := 69) rfl) (by rw [e3]; rfl) ?_
          refine w_t (np := 33) (l2 := [some (eR a0), some (eI (4)), some (eI (2))]) (s2 := [eI (4), eR v2]) rfl rfl rfl ?_
          refine w_t (np := 34) (l2 := [some (eR a0), some (eI (4)), some (eI (2))]) (s2 := [eI (2), eI (4), eR v2]) rfl rfl rfl ?_
          refine w_t (np := 35) (l2 := [some (eR a0), some (eI (4)), some (eI (2))]) (s2 := [eI (6), eR v2]) rfl (b_iadd rfl) rfl ?_
          refine w_cu (np := 38) (as := [eI (6)]) (l2 := [some (eI (6))]) (rest := [eR v2]) rfl rfl rfl (Nat.ble_eq.mp rfl) rfl rfl rfl rfl ?_
          refine w_t (np := 1) (l2 := [some (eI (6))]) (s2 := [eI (6)]) rfl rfl rfl ?_
          refine w_t (np := 3) (l2 := [some (eI (6))]) (s2 := [eI (10), eI (6)]) rfl rfl rfl ?_
          refine w_t (np := 4) (l2 := [some (eI (6))]) (s2 := [eI (6)]) rfl rfl rfl ?_
          refine w_t (np := 6) (l2 := [some (eI (6))]) (s2 := [eI (10), eI (6)]) rfl rfl rfl ?_
          refine w_t (np := 7) (l2 := [some (eI (6))]) (s2 := [eI (16)]) rfl (b_iadd rfl) rfl ?_
          refine w_t (np := 9) (l2 := [some (eI (6))]) (s2 := [eI (10), eI (16)]) rfl rfl rfl ?_
          refine w_t (np := 10) (l2 := [some (eI (6))]) (s2 := [eI (6)]) rfl rfl rfl ?_
          refine b_ri rfl rfl ?_
          show ex_q (dt_fg L ρ) rc (d + 1, (327, 38, [some (eR a0), some (eI (4)), some (eI (2))], [eI (6), eR v2]), f :: F, μ)
          refine j_b3 (np := 39) rfl rfl hI b4 (by decide) (n := 10) rfl rfl (lo := 0) (hi := 1) (fun _ => rfl) (by decide) (by decide) ?_
          intro v18 e19 b20
          refine b_ine (t1 := 48) (t2 := 42) rfl rfl rfl (ev_w_in (by omega) (by omega)) (fun g21 => ?_) (fun g21 => ?_)
          · have b22 : 1 ≤ v18 ∧ v18 ≤ 1 := by omega
            refine w_t (np := 49) (l2 := [some (eR a0), some (eI (4)), some (eI (2))]) (s2 := [eI (2)]) rfl rfl rfl ?_
            exact b_ri rfl rfl (K (2) (by decide) (gG_e (gG_c (r := μ.1 v2) (d := 4) (show μ.1 v2 4 = 0 from (e7).trans (by omega)) (fun z9 => by have z8 := (show μ.1 v2 3 = v10 from e11); have z7 : μ.1 v2 3 = 0 := z9; omega) (gN_s (show μ.1 v2 5 = 0 from (e15).trans (by omega)) (gN_e (fun z9 => by have z8 := (show μ.1 v2 6 = v18 from e19); have z7 : μ.1 v2 6 = 0 := z9; omega) rfl))) e3))
          · have b22 : 0 ≤ v18 ∧ v18 ≤ 0 := by omega
            refine w_t (np := 45) (l2 := [some (eR a0), some (eI (4)), some (eI (3))]) (s2 := []) rfl (b_iinc rfl rfl rfl) rfl ?_
            refine w_go (t1 := 28) rfl rfl ?_
            refine w_t (np := 29) (l2 := [some (eR a0), some (eI (4)), some (eI (3))]) (s2 := [eR a0]) rfl (s_an rfl (pos_g hI gA0 (by decide))) rfl ?_
            refine w_gf (np := 32) (v := eR v2) rfl rfl (hI.kd gA0 (by decide) (n := 69) rfl) (by rw [e3]; rfl) ?_
            refine w_t (np := 33) (l2 := [some (eR a0), some (eI (4)), some (eI (3))]) (s2 := [eI (4), eR v2]) rfl rfl rfl ?_
            refine w_t (np := 34) (l2 := [some (eR a0), some (eI (4)), some (eI (3))]) (s2 := [eI (3), eI (4), eR v2]) rfl rfl rfl ?_
            refine w_t (np := 35) (l2 := [some (eR a0), some (eI (4)), some (eI (3))]) (s2 := [eI (7), eR v2]) rfl (b_iadd rfl) rfl ?_
            refine w_cu (np := 38) (as := [eI (7)]) (l2 := [some (eI (7))]) (rest := [eR v2]) rfl rfl rfl (Nat.ble_eq.mp rfl) rfl rfl rfl rfl ?_
            refine w_t (np := 1) (l2 := [some (eI (7))]) (s2 := [eI (7)]) rfl rfl rfl ?_
            refine w_t (np := 3) (l2 := [some (eI (7))]) (s2 := [eI (10), eI (7)]) rfl rfl rfl ?_
            refine w_t (np := 4) (l2 := [some (eI (7))]) (s2 := [eI (7)]) rfl rfl rfl ?_
            refine w_t (np := 6) (l2 := [some (eI (7))]) (s2 := [eI (10), eI (7)]) rfl rfl rfl ?_
            refine w_t (np := 7) (l2 := [some (eI (7))]) (s2 := [eI (17)]) rfl (b_iadd rfl) rfl ?_
            refine w_t (np := 9) (l2 := [some (eI (7))]) (s2 := [eI (10), eI (17)]) rfl rfl rfl ?_
            refine w_t (np := 10) (l2 := [some (eI (7))]) (s2 := [eI (7)]) rfl rfl rfl ?_
            refine b_ri rfl rfl ?_
            show ex_q (dt_fg L ρ) rc (d + 1, (327, 38, [some (eR a0), some (eI (4)), some (eI (3))], [eI (7), eR v2]), f :: F, μ)
            refine j_b3 (np := 39) rfl rfl hI b4 (by decide) (n := 10) rfl rfl (lo := 0) (hi := 1) (fun _ => rfl) (by decide) (by decide) ?_
            intro v22 e23 b24
            refine b_ine (t1 := 48) (t2 := 42) rfl rfl rfl (ev_w_in (by omega) (by omega)) (fun g25 => ?_) (fun g25 => ?_)
            · have b26 : 1 ≤ v22 ∧ v22 ≤ 1 := by omega
              refine w_t (np := 49) (l2 := [some (eR a0), some (eI (4)), some (eI (3))]) (s2 := [eI (3)]) rfl rfl rfl ?_
              exact b_ri rfl rfl (K (3) (by decide) (gG_e (gG_c (r := μ.1 v2) (d := 4) (show μ.1 v2 4 = 0 from (e7).trans (by omega)) (fun z9 => by have z8 := (show μ.1 v2 3 = v10 from e11); have z7 : μ.1 v2 3 = 0 := z9; omega) (gN_s (show μ.1 v2 5 = 0 from (e15).trans (by omega)) (gN_s (show μ.1 v2 6 = 0 from (e19).trans (by omega)) (gN_e (fun z9 => by have z8 := (show μ.1 v2 7 = v22 from e23); have z7 : μ.1 v2 7 = 0 := z9; omega) rfl)))) e3))
            · have b26 : 0 ≤ v22 ∧ v22 ≤ 0 := by omega
              refine w_t (np := 45) (l2 := [some (eR a0), some (eI (4)), some (eI (4))]) (s2 := []) rfl (b_iinc rfl rfl rfl) rfl ?_
              refine w_go (t1 := 28) rfl rfl ?_
              refine w_t (np := 29) (l2 := [some (eR a0), some (eI (4)), some (eI (4))]) (s2 := [eR a0]) rfl (s_an rfl (pos_g hI gA0 (by decide))) rfl ?_
              refine w_gf (np := 32) (v := eR v2) rfl rfl (hI.kd gA0 (by decide) (n := 69) rfl) (by rw [e3]; rfl) ?_
              refine w_t (np := 33) (l2 := [some (eR a0), some (eI (4)), some (eI (4))]) (s2 := [eI (4), eR v2]) rfl rfl rfl ?_
              refine w_t (np := 34) (l2 := [some (eR a0), some (eI (4)), some (eI (4))]) (s2 := [eI (4), eI (4), eR v2]) rfl rfl rfl ?_
              refine w_t (np := 35) (l2 := [some (eR a0), some (eI (4)), some (eI (4))]) (s2 := [eI (8), eR v2]) rfl (b_iadd rfl) rfl ?_
              refine w_cu (np := 38) (as := [eI (8)]) (l2 := [some (eI (8))]) (rest := [eR v2]) rfl rfl rfl (Nat.ble_eq.mp rfl) rfl rfl rfl rfl ?_
              refine w_t (np := 1) (l2 := [some (eI (8))]) (s2 := [eI (8)]) rfl rfl rfl ?_
              refine w_t (np := 3) (l2 := [some (eI (8))]) (s2 := [eI (10), eI (8)]) rfl rfl rfl ?_
              refine w_t (np := 4) (l2 := [some (eI (8))]) (s2 := [eI (8)]) rfl rfl rfl ?_
              refine w_t (np := 6) (l2 := [some (eI (8))]) (s2 := [eI (10), eI (8)]) rfl rfl rfl ?_
              refine w_t (np := 7) (l2 := [some (eI (8))]) (s2 := [eI (18)]) rfl (b_iadd rfl) rfl ?_
              refine w_t (np := 9) (l2 := [some (eI (8))]) (s2 := [eI (10), eI (18)]) rfl rfl rfl ?_
              refine w_t (np := 10) (l2 := [some (eI (8))]) (s2 := [eI (8)]) rfl rfl rfl ?_
              refine b_ri rfl rfl ?_
              show ex_q (dt_fg L ρ) rc (d + 1, (327, 38, [some (eR a0), some (eI (4)), some (eI (4))], [eI (8), eR v2]), f :: F, μ)
              refine j_b3 (np := 39) rfl rfl hI b4 (by decide) (n := 10) rfl rfl (lo := 0) (hi := 1) (fun _ => rfl) (by decide) (by decide) ?_
              intro v26 e27 b28
              refine b_ine (t1 := 48) (t2 := 42) rfl rfl rfl (ev_w_in (by omega) (by omega)) (fun g29 => ?_) (fun g29 => ?_)
              · have b30 : 1 ≤ v26 ∧ v26 ≤ 1 := by omega
                refine w_t (np := 49) (l2 := [some (eR a0), some (eI (4)), some (eI (4))]) (s2 := [eI (4)]) rfl rfl rfl ?_
                exact b_ri rfl rfl (K (4) (by decide) (gG_e (gG_c (r := μ.1 v2) (d := 4) (show μ.1 v2 4 = 0 from (e7).trans (by omega)) (fun z9 => by have z8 := (show μ.1 v2 3 = v10 from e11); have z7 : μ.1 v2 3 = 0 := z9; omega) (gN_s (show μ.1 v2 5 = 0 from (e15).trans (by omega)) (gN_s (show μ.1 v2 6 = 0 from (e19).trans (by omega)) (gN_s (show μ.1 v2 7 = 0 from (e23).trans (by omega)) (gN_e (fun z9 => by have z8 := (show μ.1 v2 8 = v26 from e27); have z7 : μ.1 v2 8 = 0 := z9; omega) rfl))))) e3))
              · have b30 : 0 ≤ v26 ∧ v26 ≤ 0 := by omega
                refine w_t (np := 45) (l2 := [some (eR a0), some (eI (4)), some (eI (5))]) (s2 := []) rfl (b_iinc rfl rfl rfl) rfl ?_
                refine w_go (t1 := 28) rfl rfl ?_
                refine w_t (np := 29) (l2 := [some (eR a0), some (eI (4)), some (eI (5))]) (s2 := [eR a0]) rfl (s_an rfl (pos_g hI gA0 (by decide))) rfl ?_
                refine w_gf (np := 32) (v := eR v2) rfl rfl (hI.kd gA0 (by decide) (n := 69) rfl) (by rw [e3]; rfl) ?_
                refine w_t (np := 33) (l2 := [some (eR a0), some (eI (4)), some (eI (5))]) (s2 := [eI (4), eR v2]) rfl rfl rfl ?_
                refine w_t (np := 34) (l2 := [some (eR a0), some (eI (4)), some (eI (5))]) (s2 := [eI (5), eI (4), eR v2]) rfl rfl rfl ?_
                refine w_t (np := 35) (l2 := [some (eR a0), some (eI (4)), some (eI (5))]) (s2 := [eI (9), eR v2]) rfl (b_iadd rfl) rfl ?_
                refine w_cu (np := 38) (as := [eI (9)]) (l2 := [some (eI (9))]) (rest := [eR v2]) rfl rfl rfl (Nat.ble_eq.mp rfl) rfl rfl rfl rfl ?_
                refine w_t (np := 1) (l2 := [some (eI (9))]) (s2 := [eI (9)]) rfl rfl rfl ?_
                refine w_t (np := 3) (l2 := [some (eI (9))]) (s2 := [eI (10), eI (9)]) rfl rfl rfl ?_
                refine w_t (np := 4) (l2 := [some (eI (9))]) (s2 := [eI (9)]) rfl rfl rfl ?_
                refine w_t (np := 6) (l2 := [some (eI (9))]) (s2 := [eI (10), eI (9)]) rfl rfl rfl ?_
                refine w_t (np := 7) (l2 := [some (eI (9))]) (s2 := [eI (19)]) rfl (b_iadd rfl) rfl ?_
                refine w_t (np := 9) (l2 := [some (eI (9))]) (s2 := [eI (10), eI (19)]) rfl rfl rfl ?_
                refine w_t (np := 10) (l2 := [some (eI (9))]) (s2 := [eI (9)]) rfl rfl rfl ?_
                refine b_ri rfl rfl ?_
                show ex_q (dt_fg L ρ) rc (d + 1, (327, 38, [some (eR a0), some (eI (4)), some (eI (5))], [eI (9), eR v2]), f :: F, μ)
                refine j_b3 (np := 39) rfl rfl hI b4 (by decide) (n := 10) rfl rfl (lo := 0) (hi := 1) (fun _ => rfl) (by decide) (by decide) ?_
                intro v30 e31 b32
                refine b_ine (t1 := 48) (t2 := 42) rfl rfl rfl (ev_w_in (by omega) (by omega)) (fun g33 => ?_) (fun g33 => ?_)
                · have b34 : 1 ≤ v30 ∧ v30 ≤ 1 := by omega
                  refine w_t (np := 49) (l2 := [some (eR a0), some (eI (4)), some (eI (5))]) (s2 := [eI (5)]) rfl rfl rfl ?_
                  exact b_ri rfl rfl (K (5) (by decide) (gG_e (gG_c (r := μ.1 v2) (d := 4) (show μ.1 v2 4 = 0 from (e7).trans (by omega)) (fun z9 => by have z8 := (show μ.1 v2 3 = v10 from e11); have z7 : μ.1 v2 3 = 0 := z9; omega) (gN_s (show μ.1 v2 5 = 0 from (e15).trans (by omega)) (gN_s (show μ.1 v2 6 = 0 from (e19).trans (by omega)) (gN_s (show μ.1 v2 7 = 0 from (e23).trans (by omega)) (gN_s (show μ.1 v2 8 = 0 from (e27).trans (by omega)) (gN_e (fun z9 => by have z8 := (show μ.1 v2 9 = v30 from e31); have z7 : μ.1 v2 9 = 0 := z9; omega) rfl)))))) e3))
                · have b34 : 0 ≤ v30 ∧ v30 ≤ 0 := by omega
                  refine w_t (np := 45) (l2 := [some (eR a0), some (eI (4)), some (eI (6))]) (s2 := []) rfl (b_iinc rfl rfl rfl) rfl ?_
                  refine w_go (t1 := 28) rfl rfl ?_
                  refine w_t (np := 29) (l2 := [some (eR a0), some (eI (4)), some (eI (6))]) (s2 := [eR a0]) rfl (s_an rfl (pos_g hI gA0 (by decide))) rfl ?_
                  refine w_gf (np := 32) (v := eR v2) rfl rfl (hI.kd gA0 (by decide) (n := 69) rfl) (by rw [e3]; rfl) ?_
                  refine w_t (np := 33) (l2 := [some (eR a0), some (eI (4)), some (eI (6))]) (s2 := [eI (4), eR v2]) rfl rfl rfl ?_
                  refine w_t (np := 34) (l2 := [some (eR a0), some (eI (4)), some (eI (6))]) (s2 := [eI (6), eI (4), eR v2]) rfl rfl rfl ?_
                  refine w_t (np := 35) (l2 := [some (eR a0), some (eI (4)), some (eI (6))]) (s2 := [eI (10), eR v2]) rfl (b_iadd rfl) rfl ?_
                  refine w_cu (np := 38) (as := [eI (10)]) (l2 := [some (eI (10))]) (rest := [eR v2]) rfl rfl rfl (Nat.ble_eq.mp rfl) rfl rfl rfl rfl ?_
                  refine w_t (np := 1) (l2 := [some (eI (10))]) (s2 := [eI (10)]) rfl rfl rfl ?_
                  refine w_t (np := 3) (l2 := [some (eI (10))]) (s2 := [eI (10), eI (10)]) rfl rfl rfl ?_
                  refine w_t (np := 4) (l2 := [some (eI (10))]) (s2 := [eI (0)]) rfl rfl rfl ?_
                  refine w_t (np := 6) (l2 := [some (eI (10))]) (s2 := [eI (10), eI (0)]) rfl rfl rfl ?_
                  refine w_t (np := 7) (l2 := [some (eI (10))]) (s2 := [eI (10)]) rfl (b_iadd rfl) rfl ?_
                  refine w_t (np := 9) (l2 := [some (eI (10))]) (s2 := [eI (10), eI (10)]) rfl rfl rfl ?_
                  refine w_t (np := 10) (l2 := [some (eI (10))]) (s2 := [eI (0)]) rfl rfl rfl ?_
                  refine b_ri rfl rfl ?_
                  show ex_q (dt_fg L ρ) rc (d + 1, (327, 38, [some (eR a0), some (eI (4)), some (eI (6))], [eI (0), eR v2]), f :: F, μ)
                  refine j_b3 (np := 39) rfl rfl hI b4 (by decide) (n := 10) rfl rfl (lo := 0) (hi := 1) (fun _ => rfl) (by decide) (by decide) ?_
                  intro v34 e35 b36
                  refine b_ine (t1 := 48) (t2 := 42) rfl rfl rfl (ev_w_in (by omega) (by omega)) (fun g37 => ?_) (fun g37 => ?_)
                  · have b38 : 1 ≤ v34 ∧ v34 ≤ 1 := by omega
                    refine w_t (np := 49) (l2 := [some (eR a0), some (eI (4)), some (eI (6))]) (s2 := [eI (6)]) rfl rfl rfl ?_
                    exact b_ri rfl rfl (K (6) (by decide) (gG_e (gG_c (r := μ.1 v2) (d := 4) (show μ.1 v2 4 = 0 from (e7).trans (by omega)) (fun z9 => by have z8 := (show μ.1 v2 3 = v10 from e11); have z7 : μ.1 v2 3 = 0 := z9; omega) (gN_s (show μ.1 v2 5 = 0 from (e15).trans (by omega)) (gN_s (show μ.1 v2 6 = 0 from (e19).trans (by omega)) (gN_s (show μ.1 v2 7 = 0 from (e23).trans (by omega)) (gN_s (show μ.1 v2 8 = 0 from (e27).trans (by omega)) (gN_s (show μ.1 v2 9 = 0 from (e31).trans (by omega)) (gN_e (fun z9 => by have z8 := (show μ.1 v2 0 = v34 from e35); have z7 : μ.1 v2 0 = 0 := z9; omega) rfl))))))) e3))
                  · have b38 : 0 ≤ v34 ∧ v34 ≤ 0 := by omega
                    refine w_t (np := 45) (l2 := [some (eR a0), some (eI (4)), some (eI (7))]) (s2 := []) rfl (b_iinc rfl rfl rfl) rfl ?_
                    refine w_go (t1 := 28) rfl rfl ?_
                    refine w_t (np := 29) (l2 := [some (eR a0), some (eI (4)), some (eI (7))]) (s2 := [eR a0]) rfl (s_an rfl (pos_g hI gA0 (by decide))) rfl ?_
                    refine w_gf (np := 32) (v := eR v2) rfl rfl (hI.kd gA0 (by decide) (n := 69) rfl) (by rw [e3]; rfl) ?_
                    refine w_t (np := 33) (l2 := [some (eR a0), some (eI (4)), some (eI (7))]) (s2 := [eI (4), eR v2]) rfl rfl rfl ?_
                    refine w_t (np := 34) (l2 := [some (eR a0), some (eI (4)), some (eI (7))]) (s2 := [eI (7), eI (4), eR v2]) rfl rfl rfl ?_
                    refine w_t (np := 35) (l2 := [some (eR a0), some (eI (4)), some (eI (7))]) (s2 := [eI (11), eR v2]) rfl (b_iadd rfl) rfl ?_
                    refine w_cu (np := 38) (as := [eI (11)]) (l2 := [some (eI (11))]) (rest := [eR v2]) rfl rfl rfl (Nat.ble_eq.mp rfl) rfl rfl rfl rfl ?_
                    refine w_t (np := 1) (l2 := [some (eI (11))]) (s2 := [eI (11)]) rfl rfl rfl ?_
                    refine w_t (np := 3) (l2 := [some (eI (11))]) (s2 := [eI (10), eI (11)]) rfl rfl rfl ?_
                    refine w_t (np := 4) (l2 := [some (eI (11))]) (s2 := [eI (1)]) rfl rfl rfl ?_
                    refine w_t (np := 6) (l2 := [some (eI (11))]) (s2 := [eI (10), eI (1)]) rfl rfl rfl ?_
                    refine w_t (np := 7) (l2 := [some (eI (11))]) (s2 := [eI (11)]) rfl (b_iadd rfl) rfl ?_
                    refine w_t (np := 9) (l2 := [some (eI (11))]) (s2 := [eI (10), eI (11)]) rfl rfl rfl ?_
                    refine w_t (np := 10) (l2 := [some (eI (11))]) (s2 := [eI (1)]) rfl rfl rfl ?_
                    refine b_ri rfl rfl ?_
                    show ex_q (dt_fg L ρ) rc (d + 1, (327, 38, [some (eR a0), some (eI (4)), some (eI (7))], [eI (1), eR v2]), f :: F, μ)
                    refine j_b3 (np := 39) rfl rfl hI b4 (by decide) (n := 10) rfl rfl (lo := 0) (hi := 1) (fun _ => rfl) (by decide) (by decide) ?_
                    intro v38 e39 b40
                    refine b_ine (t1 := 48) (t2 := 42) rfl rfl rfl (ev_w_in (by omega) (by omega)) (fun g41 => ?_) (fun g41 => ?_)
                    · have b42 : 1 ≤ v38 ∧ v38 ≤ 1 := by omega
                      refine w_t (np := 49) (l2 := [some (eR a0), some (eI (4)), some (eI (7))]) (s2 := [eI (7)]) rfl rfl rfl ?_
                      exact b_ri rfl rfl (K (7) (by decide) (gG_e (gG_c (r := μ.1 v2) (d := 4) (show μ.1 v2 4 = 0 from (e7).trans (by omega)) (fun z9 => by have z8 := (show μ.1 v2 3 = v10 from e11); have z7 : μ.1 v2 3 = 0 := z9; omega) (gN_s (show μ.1 v2 5 = 0 from (e15).trans (by omega)) (gN_s (show μ.1 v2 6 = 0 from (e19).trans (by omega)) (gN_s (show μ.1 v2 7 = 0 from (e23).trans (by omega)) (gN_s (show μ.1 v2 8 = 0 from (e27).trans (by omega)) (gN_s (show μ.1 v2 9 = 0 from (e31).trans (by omega)) (gN_s (show μ.1 v2 0 = 0 from (e35).trans (by omega)) (gN_e (fun z9 => by have z8 := (show μ.1 v2 1 = v38 from e39); have z7 : μ.1 v2 1 = 0 := z9; omega) rfl)))))))) e3))
                    · have b42 : 0 ≤ v38 ∧ v38 ≤ 0 := by omega
                      refine w_t (np := 45) (l2 := [some (eR a0), some (eI (4)), some (eI (8))]) (s2 := []) rfl (b_iinc rfl rfl rfl) rfl ?_
                      refine w_go (t1 := 28) rfl rfl ?_
                      refine w_t (np := 29) (l2 := [some (eR a0), some (eI (4)), some (eI (8))]) (s2 := [eR a0]) rfl (s_an rfl (pos_g hI gA0 (by decide))) rfl ?_
                      refine w_gf (np := 32) (v := eR v2) rfl rfl (hI.kd gA0 (by decide) (n := 69) rfl) (by rw [e3]; rfl) ?_
                      refine w_t (np := 33) (l2 := [some (eR a0), some (eI (4)), some (eI (8))]) (s2 := [eI (4), eR v2]) rfl rfl rfl ?_
                      refine w_t (np := 34) (l2 := [some (eR a0), some (eI (4)), some (eI (8))]) (s2 := [eI (8), eI (4), eR v2]) rfl rfl rfl ?_
                      refine w_t (np := 35) (l2 := [some (eR a0), some (eI (4)), some (eI (8))]) (s2 := [eI (12), eR v2]) rfl (b_iadd rfl) rfl ?_
                      refine w_cu (np := 38) (as := [eI (12)]) (l2 := [some (eI (12))]) (rest := [eR v2]) rfl rfl rfl (Nat.ble_eq.mp rfl) rfl rfl rfl rfl ?_
                      refine w_t (np := 1) (l2 := [some (eI (12))]) (s2 := [eI (12)]) rfl rfl rfl ?_
                      refine w_t (np := 3) (l2 := [some (eI (12))]) (s2 := [eI (10), eI (12)]) rfl rfl rfl ?_
                      refine w_t (np := 4) (l2 := [some (eI (12))]) (s2 := [eI (2)]) rfl rfl rfl ?_
                      refine w_t (np := 6) (l2 := [some (eI (12))]) (s2 := [eI (10), eI (2)]) rfl rfl rfl ?_
                      refine w_t (np := 7) (l2 := [some (eI (12))]) (s2 := [eI (12)]) rfl (b_iadd rfl) rfl ?_
                      refine w_t (np := 9) (l2 := [some (eI (12))]) (s2 := [eI (10), eI (12)]) rfl rfl rfl ?_
                      refine w_t (np := 10) (l2 := [some (eI (12))]) (s2 := [eI (2)]) rfl rfl rfl ?_
                      refine b_ri rfl rfl ?_
                      show ex_q (dt_fg L ρ) rc (d + 1, (327, 38, [some (eR a0), some (eI (4)), some (eI (8))], [eI (2), eR v2]), f :: F, μ)
                      refine j_b3 (np := 39) rfl rfl hI b4 (by decide) (n := 10) rfl rfl (lo := 0) (hi := 1) (fun _ => rfl) (by decide) (by decide) ?_
                      intro v42 e43 b44
                      refine b_ine (t1 := 48) (t2 := 42) rfl rfl rfl (ev_w_in (by omega) (by omega)) (fun g45 => ?_) (fun g45 => ?_)
                      · have b46 : 1 ≤ v42 ∧ v42 ≤ 1 := by omega
                        refine w_t (np := 49) (l2 := [some (eR a0), some (eI (4)), some (eI (8))]) (s2 := [eI (8)]) rfl rfl rfl ?_
                        exact b_ri rfl rfl (K (8) (by decide) (gG_e (gG_c (r := μ.1 v2) (d := 4) (show μ.1 v2 4 = 0 from (e7).trans (by omega)) (fun z9 => by have z8 := (show μ.1 v2 3 = v10 from e11); have z7 : μ.1 v2 3 = 0 := z9; omega) (gN_s (show μ.1 v2 5 = 0 from (e15).trans (by omega)) (gN_s (show μ.1 v2 6 = 0 from (e19).trans (by omega)) (gN_s (show μ.1 v2 7 = 0 from (e23).trans (by omega)) (gN_s (show μ.1 v2 8 = 0 from (e27).trans (by omega)) (gN_s (show μ.1 v2 9 = 0 from (e31).trans (by omega)) (gN_s (show μ.1 v2 0 = 0 from (e35).trans (by omega)) (gN_s (show μ.1 v2 1 = 0 from (e39).trans (by omega)) (gN_e (fun z9 => by have z8 := (show μ.1 v2 2 = v42 from e43); have z7 : μ.1 v2 2 = 0 := z9; omega) rfl))))))))) e3))
                      · have b46 : 0 ≤ v42 ∧ v42 ≤ 0 := by omega
                        refine w_t (np := 45) (l2 := [some (eR a0), some (eI (4)), some (eI (9))]) (s2 := []) rfl (b_iinc rfl rfl rfl) rfl ?_
                        refine w_go (t1 := 28) rfl rfl ?_
                        refine w_t (np := 29) (l2 := [some (eR a0), some (eI (4)), some (eI (9))]) (s2 := [eR a0]) rfl (s_an rfl (pos_g hI gA0 (by decide))) rfl ?_
                        refine w_gf (np := 32) (v := eR v2) rfl rfl (hI.kd gA0 (by decide) (n := 69) rfl) (by rw [e3]; rfl) ?_
                        refine w_t (np := 33) (l2 := [some (eR a0), some (eI (4)), some (eI (9))]) (s2 := [eI (4), eR v2]) rfl rfl rfl ?_
                        refine w_t (np := 34) (l2 := [some (eR a0), some (eI (4)), some (eI (9))]) (s2 := [eI (9), eI (4), eR v2]) rfl rfl rfl ?_
                        refine w_t (np := 35) (l2 := [some (eR a0), some (eI (4)), some (eI (9))]) (s2 := [eI (13), eR v2]) rfl (b_iadd rfl) rfl ?_
                        refine w_cu (np := 38) (as := [eI (13)]) (l2 := [some (eI (13))]) (rest := [eR v2]) rfl rfl rfl (Nat.ble_eq.mp rfl) rfl rfl rfl rfl ?_
                        refine w_t (np := 1) (l2 := [some (eI (13))]) (s2 := [eI (13)]) rfl rfl rfl ?_
                        refine w_t (np := 3) (l2 := [some (eI (13))]) (s2 := [eI (10), eI (13)]) rfl rfl rfl ?_
                        refine w_t (np := 4) (l2 := [some (eI (13))]) (s2 := [eI (3)]) rfl rfl rfl ?_
                        refine w_t (np := 6) (l2 := [some (eI (13))]) (s2 := [eI (10), eI (3)]) rfl rfl rfl ?_
                        refine w_t (np := 7) (l2 := [some (eI (13))]) (s2 := [eI (13)]) rfl (b_iadd rfl) rfl ?_
                        refine w_t (np := 9) (l2 := [some (eI (13))]) (s2 := [eI (10), eI (13)]) rfl rfl rfl ?_
                        refine w_t (np := 10) (l2 := [some (eI (13))]) (s2 := [eI (3)]) rfl rfl rfl ?_
                        refine b_ri rfl rfl ?_
                        show ex_q (dt_fg L ρ) rc (d + 1, (327, 38, [some (eR a0), some (eI (4)), some (eI (9))], [eI (3), eR v2]), f :: F, μ)
                        refine j_b3 (np := 39) rfl rfl hI b4 (by decide) (n := 10) rfl rfl (lo := 0) (hi := 1) (fun _ => rfl) (by decide) (by decide) ?_
                        intro v46 e47 b48
                        have e47 := e47.symm.trans e11
                        rw [e47]
                        refine b_ine (t1 := 48) (t2 := 42) rfl rfl rfl (ev_w_in (by omega) (by omega)) (fun g49 => ?_) (fun g49 => False.elim (by omega))
                        refine w_t (np := 49) (l2 := [some (eR a0), some (eI (4)), some (eI (9))]) (s2 := [eI (9)]) rfl rfl rfl ?_
                        exact b_ri rfl rfl (K (9) (by decide) (gG_e (gG_c (r := μ.1 v2) (d := 4) (show μ.1 v2 4 = 0 from (e7).trans (by omega)) (fun z9 => by have z8 := (show μ.1 v2 3 = v10 from e11); have z7 : μ.1 v2 3 = 0 := z9; omega) (gN_s (show μ.1 v2 5 = 0 from (e15).trans (by omega)) (gN_s (show μ.1 v2 6 = 0 from (e19).trans (by omega)) (gN_s (show μ.1 v2 7 = 0 from (e23).trans (by omega)) (gN_s (show μ.1 v2 8 = 0 from (e27).trans (by omega)) (gN_s (show μ.1 v2 9 = 0 from (e31).trans (by omega)) (gN_s (show μ.1 v2 0 = 0 from (e35).trans (by omega)) (gN_s (show μ.1 v2 1 = 0 from (e39).trans (by omega)) (gN_s (show μ.1 v2 2 = 0 from (e43).trans (by omega)) rfl))))))))) e3))
      · have b14 : 0 ≤ v10 ∧ v10 ≤ 0 := by omega
        refine w_t (np := 25) (l2 := [some (eR a0), some (eI (4)), none]) (s2 := [eI (0)]) rfl rfl rfl ?_
        exact b_ri rfl rfl (K (0) (by decide) (gG_e (gG_b (r := μ.1 v2) (d := 4) (show μ.1 v2 4 = 0 from (e7).trans (by omega)) (show μ.1 v2 3 = 0 from (e11).trans (by omega))) e3))
  · subst g1
    refine w_t (np := 1) (l2 := [some (eR a0), some (eI (5)), none]) (s2 := [eR a0]) rfl (s_an rfl (pos_g hI gA0 (by decide))) rfl ?_
    refine j_gr (np := 4) rfl rfl hI gA0 (by decide) (n := 69) rfl rfl rfl ?_
    intro v2 e3 b4 z5
    have b4 : g v2 = 85 := Nat.eq_of_beq_eq_true b4
    refine w_t (np := 5) (l2 := [some (eR a0), some (eI (5)), none]) (s2 := [eI (5), eR v2]) rfl rfl rfl ?_
    refine j_b3 (np := 6) rfl rfl hI b4 (by decide) (n := 10) rfl rfl (lo := 0) (hi := 1) (fun _ => rfl) (by decide) (by decide) ?_
    intro v6 e7 b8
    refine b_ine (t1 := 24) (t2 := 9) rfl rfl rfl (ev_w_in (by omega) (by omega)) (fun g9 => ?_) (fun g9 => ?_)
    · have b10 : 1 ≤ v6 ∧ v6 ≤ 1 := by omega
      refine w_t (np := 25) (l2 := [some (eR a0), some (eI (5)), none]) (s2 := [eI (0)]) rfl rfl rfl ?_
      exact b_ri rfl rfl (K (0) (by decide) (gG_e (gG_a (r := μ.1 v2) (d := 5) (fun z9 => by have z8 := (show μ.1 v2 5 = v6 from e7); have z7 : μ.1 v2 5 = 0 := z9; omega)) e3))
    · have b10 : 0 ≤ v6 ∧ v6 ≤ 0 := by omega
      refine w_t (np := 10) (l2 := [some (eR a0), some (eI (5)), none]) (s2 := [eR a0]) rfl (s_an rfl (pos_g hI gA0 (by decide))) rfl ?_
      refine w_gf (np := 13) (v := eR v2) rfl rfl (hI.kd gA0 (by decide) (n := 69) rfl) (by rw [e3]; rfl) ?_
      refine w_t (np := 14) (l2 := [some (eR a0), some (eI (5)), none]) (s2 := [eI (5), eR v2]) rfl rfl rfl ?_
      refine w_t (np := 16) (l2 := [some (eR a0), some (eI (5)), none]) (s2 := [eI (9), eI (5), eR v2]) rfl rfl rfl ?_
      refine w_t (np := 17) (l2 := [some (eR a0), some (eI (5)), none]) (s2 := [eI (14), eR v2]) rfl (b_iadd rfl) rfl ?_
      refine w_cu (np := 20) (as := [eI (14)]) (l2 := [some (eI (14))]) (rest := [eR v2]) rfl rfl rfl (Nat.ble_eq.mp rfl) rfl rfl rfl rfl ?_
      refine w_t (np := 1) (l2 := [some (eI (14))]) (s2 := [eI (14)]) rfl rfl rfl ?_
      refine w_t (np := 3) (l2 := [some (eI (14))]) (s2 := [eI (10), eI (14)]) rfl rfl rfl ?_
      refine w_t (np := 4) (l2 := [some (eI (14))]) (s2 := [eI (4)]) rfl rfl rfl ?_
      refine w_t (np := 6) (l2 := [some (eI (14))]) (s2 := [eI (10), eI (4)]) rfl rfl rfl ?_
      refine w_t (np := 7) (l2 := [some (eI (14))]) (s2 := [eI (14)]) rfl (b_iadd rfl) rfl ?_
      refine w_t (np := 9) (l2 := [some (eI (14))]) (s2 := [eI (10), eI (14)]) rfl rfl rfl ?_
      refine w_t (np := 10) (l2 := [some (eI (14))]) (s2 := [eI (4)]) rfl rfl rfl ?_
      refine b_ri rfl rfl ?_
      show ex_q (dt_fg L ρ) rc (d + 1, (327, 20, [some (eR a0), some (eI (5)), none], [eI (4), eR v2]), f :: F, μ)
      refine j_b3 (np := 21) rfl rfl hI b4 (by decide) (n := 10) rfl rfl (lo := 0) (hi := 1) (fun _ => rfl) (by decide) (by decide) ?_
      intro v10 e11 b12
      refine b_ine (t1 := 26) (t2 := 24) rfl rfl rfl (ev_w_in (by omega) (by omega)) (fun g13 => ?_) (fun g13 => ?_)
      · have b14 : 1 ≤ v10 ∧ v10 ≤ 1 := by omega
        refine w_t (np := 27) (l2 := [some (eR a0), some (eI (5)), none]) (s2 := [eI (1)]) rfl rfl rfl ?_
        refine w_t (np := 28) (l2 := [some (eR a0), some (eI (5)), some (eI (1))]) (s2 := []) rfl rfl rfl ?_
        refine w_t (np := 29) (l2 := [some (eR a0), some (eI (5)), some (eI (1))]) (s2 := [eR a0]) rfl (s_an rfl (pos_g hI gA0 (by decide))) rfl ?_
        refine w_gf (np := 32) (v := eR v2) rfl rfl (hI.kd gA0 (by decide) (n := 69) rfl) (by rw [e3]; rfl) ?_
        refine w_t (np := 33) (l2 := [some (eR a0), some (eI (5)), some (eI (1))]) (s2 := [eI (5), eR v2]) rfl rfl rfl ?_
        refine w_t (np := 34) (l2 := [some (eR a0), some (eI (5)), some (eI (1))]) (s2 := [eI (1), eI (5), eR v2]) rfl rfl rfl ?_
        refine w_t (np := 35) (l2 := [some (eR a0), some (eI (5)), some (eI (1))]) (s2 := [eI (6), eR v2]) rfl (b_iadd rfl) rfl ?_
        refine w_cu (np := 38) (as := [eI (6)]) (l2 := [some (eI (6))]) (rest := [eR v2]) rfl rfl rfl (Nat.ble_eq.mp rfl) rfl rfl rfl rfl ?_
        refine w_t (np := 1) (l2 := [some (eI (6))]) (s2 := [eI (6)]) rfl rfl rfl ?_
        refine w_t (np := 3) (l2 := [some (eI (6))]) (s2 := [eI (10), eI (6)]) rfl rfl rfl ?_
        refine w_t (np := 4) (l2 := [some (eI (6))]) (s2 := [eI (6)]) rfl rfl rfl ?_
        refine w_t (np := 6) (l2 := [some (eI (6))]) (s2 := [eI (10), eI (6)]) rfl rfl rfl ?_
        refine w_t (np := 7) (l2 := [some (eI (6))]) (s2 := [eI (16)]) rfl (b_iadd rfl) rfl ?_
        refine w_t (np := 9) (l2 := [some (eI (6))]) (s2 := [eI (10), eI (16)]) rfl rfl rfl ?_
        refine w_t (np := 10) (l2 := [some (eI (6))]) (s2 := [eI (6)]) rfl rfl rfl ?_
        refine b_ri rfl rfl ?_
        show ex_q (dt_fg L ρ) rc (d + 1, (327, 38, [some (eR a0), some (eI (5)), some (eI (1))], [eI (6), eR v2]), f :: F, μ)
        refine j_b3 (np := 39) rfl rfl hI b4 (by decide) (n := 10) rfl rfl (lo := 0) (hi := 1) (fun _ => rfl) (by decide) (by decide) ?_
        intro v14 e15 b16
        refine b_ine (t1 := 48) (t2 := 42) rfl rfl rfl (ev_w_in (by omega) (by omega)) (fun g17 => ?_) (fun g17 => ?_)
        · have b18 : 1 ≤ v14 ∧ v14 ≤ 1 := by omega
          refine w_t (np := 49) (l2 := [some (eR a0), some (eI (5)), some (eI (1))]) (s2 := [eI (1)]) rfl rfl rfl ?_
          exact b_ri rfl rfl (K (1) (by decide) (gG_e (gG_c (r := μ.1 v2) (d := 5) (show μ.1 v2 5 = 0 from (e7).trans (by omega)) (fun z9 => by have z8 := (show μ.1 v2 4 = v10 from e11); have z7 : μ.1 v2 4 = 0 := z9; omega) (gN_e (fun z9 => by have z8 := (show μ.1 v2 6 = v14 from e15); have z7 : μ.1 v2 6 = 0 := z9; omega) rfl)) e3))
        · have b18 : 0 ≤ v14 ∧ v14 ≤ 0 := by omega
          refine w_t (np := 45) (l2 := [some (eR a0), some (eI (5)), some (eI (2))]) (s2 := []) rfl (b_iinc rfl rfl rfl) rfl ?_
          refine w_go (t1 := 28) rfl rfl ?_
          refine w_t (np := 29) (l2 := [some (eR a0), some (eI (5)), some (eI (2))]) (s2 := [eR a0]) rfl (s_an rfl (pos_g hI gA0 (by decide))) rfl ?_
          refine w_gf (np := 32) (v := eR v2) rfl rfl (hI.kd gA0 (by decide) (n := 69) rfl) (by rw [e3]; rfl) ?_
          refine w_t (np := 33) (l2 := [some (eR a0), some (eI (5)), some (eI (2))]) (s2 := [eI (5), eR v2]) rfl rfl rfl ?_
          refine w_t (np := 34) (l2 := [some (eR a0), some (eI (5)), some (eI (2))]) (s2 := [eI (2), eI (5), eR v2]) rfl rfl rfl ?_
          refine w_t (np := 35) (l2 := [some (eR a0), some (eI (5)), some (eI (2))]) (s2 := [eI (7), eR v2]) rfl (b_iadd rfl) rfl ?_
          refine w_cu (np := 38) (as := [eI (7)]) (l2 := [some (eI (7))]) (rest := [eR v2]) rfl rfl rfl (Nat.ble_eq.mp rfl) rfl rfl rfl rfl ?_
          refine w_t (np := 1) (l2 := [some (eI (7))]) (s2 := [eI (7)]) rfl rfl rfl ?_
          refine w_t (np := 3) (l2 := [some (eI (7))]) (s2 := [eI (10), eI (7)]) rfl rfl rfl ?_
          refine w_t (np := 4) (l2 := [some (eI (7))]) (s2 := [eI (7)]) rfl rfl rfl ?_
          refine w_t (np := 6) (l2 := [some (eI (7))]) (s2 := [eI (10), eI (7)]) rfl rfl rfl ?_
          refine w_t (np := 7) (l2 := [some (eI (7))]) (s2 := [eI (17)]) rfl (b_iadd rfl) rfl ?_
          refine w_t (np := 9) (l2 := [some (eI (7))]) (s2 := [eI (10), eI (17)]) rfl rfl rfl ?_
          refine w_t (np := 10) (l2 := [some (eI (7))]) (s2 := [eI (7)]) rfl rfl rfl ?_
          refine b_ri rfl rfl ?_
          show ex_q (dt_fg L ρ) rc (d + 1, (327, 38, [some (eR a0), some (eI (5)), some (eI (2))], [eI (7), eR v2]), f :: F, μ)
          refine j_b3 (np := 39) rfl rfl hI b4 (by decide) (n := 10) rfl rfl (lo := 0) (hi := 1) (fun _ => rfl) (by decide) (by decide) ?_
          intro v18 e19 b20
          refine b_ine (t1 := 48) (t2 := 42) rfl rfl rfl (ev_w_in (by omega) (by omega)) (fun g21 => ?_) (fun g21 => ?_)
          · have b22 : 1 ≤ v18 ∧ v18 ≤ 1 := by omega
            refine w_t (np := 49) (l2 := [some (eR a0), some (eI (5)), some (eI (2))]) (s2 := [eI (2)]) rfl rfl rfl ?_
            exact b_ri rfl rfl (K (2) (by decide) (gG_e (gG_c (r := μ.1 v2) (d := 5) (show μ.1 v2 5 = 0 from (e7).trans (by omega)) (fun z9 => by have z8 := (show μ.1 v2 4 = v10 from e11); have z7 : μ.1 v2 4 = 0 := z9; omega) (gN_s (show μ.1 v2 6 = 0 from (e15).trans (by omega)) (gN_e (fun z9 => by have z8 := (show μ.1 v2 7 = v18 from e19); have z7 : μ.1 v2 7 = 0 := z9; omega) rfl))) e3))
          · have b22 : 0 ≤ v18 ∧ v18 ≤ 0 := by omega
            refine w_t (np := 45) (l2 := [some (eR a0), some (eI (5)), some (eI (3))]) (s2 := []) rfl (b_iinc rfl rfl rfl) rfl ?_
            refine w_go (t1 := 28) rfl rfl ?_
            refine w_t (np := 29) (l2 := [some (eR a0), some (eI (5)), some (eI (3))]) (s2 := [eR a0]) rfl (s_an rfl (pos_g hI gA0 (by decide))) rfl ?_
            refine w_gf (np := 32) (v := eR v2) rfl rfl (hI.kd gA0 (by decide) (n := 69) rfl) (by rw [e3]; rfl) ?_
            refine w_t (np := 33) (l2 := [some (eR a0), some (eI (5)), some (eI (3))]) (s2 := [eI (5), eR v2]) rfl rfl rfl ?_
            refine w_t (np := 34) (l2 := [some (eR a0), some (eI (5)), some (eI (3))]) (s2 := [eI (3), eI (5), eR v2]) rfl rfl rfl ?_
            refine w_t (np := 35) (l2 := [some (eR a0), some (eI (5)), some (eI (3))]) (s2 := [eI (8), eR v2]) rfl (b_iadd rfl) rfl ?_
            refine w_cu (np := 38) (as := [eI (8)]) (l2 := [some (eI (8))]) (rest := [eR v2]) rfl rfl rfl (Nat.ble_eq.mp rfl) rfl rfl rfl rfl ?_
            refine w_t (np := 1) (l2 := [some (eI (8))]) (s2 := [eI (8)]) rfl rfl rfl ?_
            refine w_t (np := 3) (l2 := [some (eI (8))]) (s2 := [eI (10), eI (8)]) rfl rfl rfl ?_
            refine w_t (np := 4) (l2 := [some (eI (8))]) (s2 := [eI (8)]) rfl rfl rfl ?_
            refine w_t (np := 6) (l2 := [some (eI (8))]) (s2 := [eI (10), eI (8)]) rfl rfl rfl ?_
            refine w_t (np := 7) (l2 := [some (eI (8))]) (s2 := [eI (18)]) rfl (b_iadd rfl) rfl ?_
            refine w_t (np := 9) (l2 := [some (eI (8))]) (s2 := [eI (10), eI (18)]) rfl rfl rfl ?_
            refine w_t (np := 10) (l2 := [some (eI (8))]) (s2 := [eI (8)]) rfl rfl rfl ?_
            refine b_ri rfl rfl ?_
            show ex_q (dt_fg L ρ) rc (d + 1, (327, 38, [some (eR a0), some (eI (5)), some (eI (3))], [eI (8), eR v2]), f :: F, μ)
            refine j_b3 (np := 39) rfl rfl hI b4 (by decide) (n := 10) rfl rfl (lo := 0) (hi := 1) (fun _ => rfl) (by decide) (by decide) ?_
            intro v22 e23 b24
            refine b_ine (t1 := 48) (t2 := 42) rfl rfl rfl (ev_w_in (by omega) (by omega)) (fun g25 => ?_) (fun g25 => ?_)
            · have b26 : 1 ≤ v22 ∧ v22 ≤ 1 := by omega
              refine w_t (np := 49) (l2 := [some (eR a0), some (eI (5)), some (eI (3))]) (s2 := [eI (3)]) rfl rfl rfl ?_
              exact b_ri rfl rfl (K (3) (by decide) (gG_e (gG_c (r := μ.1 v2) (d := 5) (show μ.1 v2 5 = 0 from (e7).trans (by omega)) (fun z9 => by have z8 := (show μ.1 v2 4 = v10 from e11); have z7 : μ.1 v2 4 = 0 := z9; omega) (gN_s (show μ.1 v2 6 = 0 from (e15).trans (by omega)) (gN_s (show μ.1 v2 7 = 0 from (e19).trans (by omega)) (gN_e (fun z9 => by have z8 := (show μ.1 v2 8 = v22 from e23); have z7 : μ.1 v2 8 = 0 := z9; omega) rfl)))) e3))
            · have b26 : 0 ≤ v22 ∧ v22 ≤ 0 := by omega
              refine w_t (np := 45) (l2 := [some (eR a0), some (eI (5)), some (eI (4))]) (s2 := []) rfl (b_iinc rfl rfl rfl) rfl ?_
              refine w_go (t1 := 28) rfl rfl ?_
              refine w_t (np := 29) (l2 := [some (eR a0), some (eI (5)), some (eI (4))]) (s2 := [eR a0]) rfl (s_an rfl (pos_g hI gA0 (by decide))) rfl ?_
              refine w_gf (np := 32) (v := eR v2) rfl rfl (hI.kd gA0 (by decide) (n := 69) rfl) (by rw [e3]; rfl) ?_
              refine w_t (np := 33) (l2 := [some (eR a0), some (eI (5)), some (eI (4))]) (s2 := [eI (5), eR v2]) rfl rfl rfl ?_
              refine w_t (np := 34) (l2 := [some (eR a0), some (eI (5)), some (eI (4))]) (s2 := [eI (4), eI (5), eR v2]) rfl rfl rfl ?_
              refine w_t (np := 35) (l2 := [some (eR a0), some (eI (5)), some (eI (4))]) (s2 := [eI (9), eR v2]) rfl (b_iadd rfl) rfl ?_
              refine w_cu (np := 38) (as := [eI (9)]) (l2 := [some (eI (9))]) (rest := [eR v2]) rfl rfl rfl (Nat.ble_eq.mp rfl) rfl rfl rfl rfl ?_
              refine w_t (np := 1) (l2 := [some (eI (9))]) (s2 := [eI (9)]) rfl rfl rfl ?_
              refine w_t (np := 3) (l2 := [some (eI (9))]) (s2 := [eI (10), eI (9)]) rfl rfl rfl ?_
              refine w_t (np := 4) (l2 := [some (eI (9))]) (s2 := [eI (9)]) rfl rfl rfl ?_
              refine w_t (np := 6) (l2 := [some (eI (9))]) (s2 := [eI (10), eI (9)]) rfl rfl rfl ?_
              refine w_t (np := 7) (l2 := [some (eI (9))]) (s2 := [eI (19)]) rfl (b_iadd rfl) rfl ?_
              refine w_t (np := 9) (l2 := [some (eI (9))]) (s2 := [eI (10), eI (19)]) rfl rfl rfl ?_
              refine w_t (np := 10) (l2 := [some (eI (9))]) (s2 := [eI (9)]) rfl rfl rfl ?_
              refine b_ri rfl rfl ?_
              show ex_q (dt_fg L ρ) rc (d + 1, (327, 38, [some (eR a0), some (eI (5)), some (eI (4))], [eI (9), eR v2]), f :: F, μ)
              refine j_b3 (np := 39) rfl rfl hI b4 (by decide) (n := 10) rfl rfl (lo := 0) (hi := 1) (fun _ => rfl) (by decide) (by decide) ?_
              intro v26 e27 b28
              refine b_ine (t1 := 48) (t2 := 42) rfl rfl rfl (ev_w_in (by omega) (by omega)) (fun g29 => ?_) (fun g29 => ?_)
              · have b30 : 1 ≤ v26 ∧ v26 ≤ 1 := by omega
                refine w_t (np := 49) (l2 := [some (eR a0), some (eI (5)), some (eI (4))]) (s2 := [eI (4)]) rfl rfl rfl ?_
                exact b_ri rfl rfl (K (4) (by decide) (gG_e (gG_c (r := μ.1 v2) (d := 5) (show μ.1 v2 5 = 0 from (e7).trans (by omega)) (fun z9 => by have z8 := (show μ.1 v2 4 = v10 from e11); have z7 : μ.1 v2 4 = 0 := z9; omega) (gN_s (show μ.1 v2 6 = 0 from (e15).trans (by omega)) (gN_s (show μ.1 v2 7 = 0 from (e19).trans (by omega)) (gN_s (show μ.1 v2 8 = 0 from (e23).trans (by omega)) (gN_e (fun z9 => by have z8 := (show μ.1 v2 9 = v26 from e27); have z7 : μ.1 v2 9 = 0 := z9; omega) rfl))))) e3))
              · have b30 : 0 ≤ v26 ∧ v26 ≤ 0 := by omega
                refine w_t (np := 45) (l2 := [some (eR a0), some (eI (5)), some (eI (5))]) (s2 := []) rfl (b_iinc rfl rfl rfl) rfl ?_
                refine w_go (t1 := 28) rfl rfl ?_
                refine w_t (np := 29) (l2 := [some (eR a0), some (eI (5)), some (eI (5))]) (s2 := [eR a0]) rfl (s_an rfl (pos_g hI gA0 (by decide))) rfl ?_
                refine w_gf (np := 32) (v := eR v2) rfl rfl (hI.kd gA0 (by decide) (n := 69) rfl) (by rw [e3]; rfl) ?_
                refine w_t (np := 33) (l2 := [some (eR a0), some (eI (5)), some (eI (5))]) (s2 := [eI (5), eR v2]) rfl rfl rfl ?_
                refine w_t (np := 34) (l2 := [some (eR a0), some (eI (5)), some (eI (5))]) (s2 := [eI (5), eI (5), eR v2]) rfl rfl rfl ?_
                refine w_t (np := 35) (l2 := [some (eR a0), some (eI (5)), some (eI (5))]) (s2 := [eI (10), eR v2]) rfl (b_iadd rfl) rfl ?_
                refine w_cu (np := 38) (as := [eI (10)]) (l2 := [some (eI (10))]) (rest := [eR v2]) rfl rfl rfl (Nat.ble_eq.mp rfl) rfl rfl rfl rfl ?_
                refine w_t (np := 1) (l2 := [some (eI (10))]) (s2 := [eI (10)]) rfl rfl rfl ?_
                refine w_t (np := 3) (l2 := [some (eI (10))]) (s2 := [eI (10), eI (10)]) rfl rfl rfl ?_
                refine w_t (np := 4) (l2 := [some (eI (10))]) (s2 := [eI (0)]) rfl rfl rfl ?_
                refine w_t (np := 6) (l2 := [some (eI (10))]) (s2 := [eI (10), eI (0)]) rfl rfl rfl ?_
                refine w_t (np := 7) (l2 := [some (eI (10))]) (s2 := [eI (10)]) rfl (b_iadd rfl) rfl ?_
                refine w_t (np := 9) (l2 := [some (eI (10))]) (s2 := [eI (10), eI (10)]) rfl rfl rfl ?_
                refine w_t (np := 10) (l2 := [some (eI (10))]) (s2 := [eI (0)]) rfl rfl rfl ?_
                refine b_ri rfl rfl ?_
                show ex_q (dt_fg L ρ) rc (d + 1, (327, 38, [some (eR a0), some (eI (5)), some (eI (5))], [eI (0), eR v2]), f :: F, μ)
                refine j_b3 (np := 39) rfl rfl hI b4 (by decide) (n := 10) rfl rfl (lo := 0) (hi := 1) (fun _ => rfl) (by decide) (by decide) ?_
                intro v30 e31 b32
                refine b_ine (t1 := 48) (t2 := 42) rfl rfl rfl (ev_w_in (by omega) (by omega)) (fun g33 => ?_) (fun g33 => ?_)
                · have b34 : 1 ≤ v30 ∧ v30 ≤ 1 := by omega
                  refine w_t (np := 49) (l2 := [some (eR a0), some (eI (5)), some (eI (5))]) (s2 := [eI (5)]) rfl rfl rfl ?_
                  exact b_ri rfl rfl (K (5) (by decide) (gG_e (gG_c (r := μ.1 v2) (d := 5) (show μ.1 v2 5 = 0 from (e7).trans (by omega)) (fun z9 => by have z8 := (show μ.1 v2 4 = v10 from e11); have z7 : μ.1 v2 4 = 0 := z9; omega) (gN_s (show μ.1 v2 6 = 0 from (e15).trans (by omega)) (gN_s (show μ.1 v2 7 = 0 from (e19).trans (by omega)) (gN_s (show μ.1 v2 8 = 0 from (e23).trans (by omega)) (gN_s (show μ.1 v2 9 = 0 from (e27).trans (by omega)) (gN_e (fun z9 => by have z8 := (show μ.1 v2 0 = v30 from e31); have z7 : μ.1 v2 0 = 0 := z9; omega) rfl)))))) e3))
                · have b34 : 0 ≤ v30 ∧ v30 ≤ 0 := by omega
                  refine w_t (np := 45) (l2 := [some (eR a0), some (eI (5)), some (eI (6))]) (s2 := []) rfl (b_iinc rfl rfl rfl) rfl ?_
                  refine w_go (t1 := 28) rfl rfl ?_
                  refine w_t (np := 29) (l2 := [some (eR a0), some (eI (5)), some (eI (6))]) (s2 := [eR a0]) rfl (s_an rfl (pos_g hI gA0 (by decide))) rfl ?_
                  refine w_gf (np := 32) (v := eR v2) rfl rfl (hI.kd gA0 (by decide) (n := 69) rfl) (by rw [e3]; rfl) ?_
                  refine w_t (np := 33) (l2 := [some (eR a0), some (eI (5)), some (eI (6))]) (s2 := [eI (5), eR v2]) rfl rfl rfl ?_
                  refine w_t (np := 34) (l2 := [some (eR a0), some (eI (5)), some (eI (6))]) (s2 := [eI (6), eI (5), eR v2]) rfl rfl rfl ?_
                  refine w_t (np := 35) (l2 := [some (eR a0), some (eI (5)), some (eI (6))]) (s2 := [eI (11), eR v2]) rfl (b_iadd rfl) rfl ?_
                  refine w_cu (np := 38) (as := [eI (11)]) (l2 := [some (eI (11))]) (rest := [eR v2]) rfl rfl rfl (Nat.ble_eq.mp rfl) rfl rfl rfl rfl ?_
                  refine w_t (np := 1) (l2 := [some (eI (11))]) (s2 := [eI (11)]) rfl rfl rfl ?_
                  refine w_t (np := 3) (l2 := [some (eI (11))]) (s2 := [eI (10), eI (11)]) rfl rfl rfl ?_
                  refine w_t (np := 4) (l2 := [some (eI (11))]) (s2 := [eI (1)]) rfl rfl rfl ?_
                  refine w_t (np := 6) (l2 := [some (eI (11))]) (s2 := [eI (10), eI (1)]) rfl rfl rfl ?_
                  refine w_t (np := 7) (l2 := [some (eI (11))]) (s2 := [eI (11)]) rfl (b_iadd rfl) rfl ?_
                  refine w_t (np := 9) (l2 := [some (eI (11))]) (s2 := [eI (10), eI (11)]) rfl rfl rfl ?_
                  refine w_t (np := 10) (l2 := [some (eI (11))]) (s2 := [eI (1)]) rfl rfl rfl ?_
                  refine b_ri rfl rfl ?_
                  show ex_q (dt_fg L ρ) rc (d + 1, (327, 38, [some (eR a0), some (eI (5)), some (eI (6))], [eI (1), eR v2]), f :: F, μ)
                  refine j_b3 (np := 39) rfl rfl hI b4 (by decide) (n := 10) rfl rfl (lo := 0) (hi := 1) (fun _ => rfl) (by decide) (by decide) ?_
                  intro v34 e35 b36
                  refine b_ine (t1 := 48) (t2 := 42) rfl rfl rfl (ev_w_in (by omega) (by omega)) (fun g37 => ?_) (fun g37 => ?_)
                  · have b38 : 1 ≤ v34 ∧ v34 ≤ 1 := by omega
                    refine w_t (np := 49) (l2 := [some (eR a0), some (eI (5)), some (eI (6))]) (s2 := [eI (6)]) rfl rfl rfl ?_
                    exact b_ri rfl rfl (K (6) (by decide) (gG_e (gG_c (r := μ.1 v2) (d := 5) (show μ.1 v2 5 = 0 from (e7).trans (by omega)) (fun z9 => by have z8 := (show μ.1 v2 4 = v10 from e11); have z7 : μ.1 v2 4 = 0 := z9; omega) (gN_s (show μ.1 v2 6 = 0 from (e15).trans (by omega)) (gN_s (show μ.1 v2 7 = 0 from (e19).trans (by omega)) (gN_s (show μ.1 v2 8 = 0 from (e23).trans (by omega)) (gN_s (show μ.1 v2 9 = 0 from (e27).trans (by omega)) (gN_s (show μ.1 v2 0 = 0 from (e31).trans (by omega)) (gN_e (fun z9 => by have z8 := (show μ.1 v2 1 = v34 from e35); have z7 : μ.1 v2 1 = 0 := z9; omega) rfl))))))) e3))
                  · have b38 : 0 ≤ v34 ∧ v34 ≤ 0 := by omega
                    refine w_t (np := 45) (l2 := [some (eR a0), some (eI (5)), some (eI (7))]) (s2 := []) rfl (b_iinc rfl rfl rfl) rfl ?_
                    refine w_go (t1 := 28) rfl rfl ?_
                    refine w_t (np := 29) (l2 := [some (eR a0), some (eI (5)), some (eI (7))]) (s2 := [eR a0]) rfl (s_an rfl (pos_g hI gA0 (by decide))) rfl ?_
                    refine w_gf (np := 32) (v := eR v2) rfl rfl (hI.kd gA0 (by decide) (n := 69) rfl) (by rw [e3]; rfl) ?_
                    refine w_t (np := 33) (l2 := [some (eR a0), some (eI (5)), some (eI (7))]) (s2 := [eI (5), eR v2]) rfl rfl rfl ?_
                    refine w_t (np := 34) (l2 := [some (eR a0), some (eI (5)), some (eI (7))]) (s2 := [eI (7), eI (5), eR v2]) rfl rfl rfl ?_
                    refine w_t (np := 35) (l2 := [some (eR a0), some (eI (5)), some (eI (7))]) (s2 := [eI (12), eR v2]) rfl (b_iadd rfl) rfl ?_
                    refine w_cu (np := 38) (as := [eI (12)]) (l2 := [some (eI (12))]) (rest := [eR v2]) rfl rfl rfl (Nat.ble_eq.mp rfl) rfl rfl rfl rfl ?_
                    refine w_t (np := 1) (l2 := [some (eI (12))]) (s2 := [eI (12)]) rfl rfl rfl ?_
                    refine w_t (np := 3) (l2 := [some (eI (12))]) (s2 := [eI (10), eI (12)]) rfl rfl rfl ?_
                    refine w_t (np := 4) (l2 := [some (eI (12))]) (s2 := [eI (2)]) rfl rfl rfl ?_
                    refine w_t (np := 6) (l2 := [some (eI (12))]) (s2 := [eI (10), eI (2)]) rfl rfl rfl ?_
                    refine w_t (np := 7) (l2 := [some (eI (12))]) (s2 := [eI (12)]) rfl (b_iadd rfl) rfl ?_
                    refine w_t (np := 9) (l2 := [some (eI (12))]) (s2 := [eI (10), eI (12)]) rfl rfl rfl ?_
                    refine w_t (np := 10) (l2 := [some (eI (12))]) (s2 := [eI (2)]) rfl rfl rfl ?_
                    refine b_ri rfl rfl ?_
                    show ex_q (dt_fg L ρ) rc (d + 1, (327, 38, [some (eR a0), some (eI (5)), some (eI (7))], [eI (2), eR v2]), f :: F, μ)
                    refine j_b3 (np := 39) rfl rfl hI b4 (by decide) (n := 10) rfl rfl (lo := 0) (hi := 1) (fun _ => rfl) (by decide) (by decide) ?_
                    intro v38 e39 b40
                    refine b_ine (t1 := 48) (t2 := 42) rfl rfl rfl (ev_w_in (by omega) (by omega)) (fun g41 => ?_) (fun g41 => ?_)
                    · have b42 : 1 ≤ v38 ∧ v38 ≤ 1 := by omega
                      refine w_t (np := 49) (l2 := [some (eR a0), some (eI (5)), some (eI (7))]) (s2 := [eI (7)]) rfl rfl rfl ?_
                      exact b_ri rfl rfl (K (7) (by decide) (gG_e (gG_c (r := μ.1 v2) (d := 5) (show μ.1 v2 5 = 0 from (e7).trans (by omega)) (fun z9 => by have z8 := (show μ.1 v2 4 = v10 from e11); have z7 : μ.1 v2 4 = 0 := z9; omega) (gN_s (show μ.1 v2 6 = 0 from (e15).trans (by omega)) (gN_s (show μ.1 v2 7 = 0 from (e19).trans (by omega)) (gN_s (show μ.1 v2 8 = 0 from (e23).trans (by omega)) (gN_s (show μ.1 v2 9 = 0 from (e27).trans (by omega)) (gN_s (show μ.1 v2 0 = 0 from (e31).trans (by omega)) (gN_s (show μ.1 v2 1 = 0 from (e35).trans (by omega)) (gN_e (fun z9 => by have z8 := (show μ.1 v2 2 = v38 from e39); have z7 : μ.1 v2 2 = 0 := z9; omega) rfl)))))))) e3))
                    · have b42 : 0 ≤ v38 ∧ v38 ≤ 0 := by omega
                      refine w_t (np := 45) (l2 := [some (eR a0), some (eI (5)), some (eI (8))]) (s2 := []) rfl (b_iinc rfl rfl rfl) rfl ?_
                      refine w_go (t1 := 28) rfl rfl ?_
                      refine w_t (np := 29) (l2 := [some (eR a0), some (eI (5)), some (eI (8))]) (s2 := [eR a0]) rfl (s_an rfl (pos_g hI gA0 (by decide))) rfl ?_
                      refine w_gf (np := 32) (v := eR v2) rfl rfl (hI.kd gA0 (by decide) (n := 69) rfl) (by rw [e3]; rfl) ?_
                      refine w_t (np := 33) (l2 := [some (eR a0), some (eI (5)), some (eI (8))]) (s2 := [eI (5), eR v2]) rfl rfl rfl ?_
                      refine w_t (np := 34) (l2 := [some (eR a0), some (eI (5)), some (eI (8))]) (s2 := [eI (8), eI (5), eR v2]) rfl rfl rfl ?_
                      refine w_t (np := 35) (l2 := [some (eR a0), some (eI (5)), some (eI (8))]) (s2 := [eI (13), eR v2]) rfl (b_iadd rfl) rfl ?_
                      refine w_cu (np := 38) (as := [eI (13)]) (l2 := [some (eI (13))]) (rest := [eR v2]) rfl rfl rfl (Nat.ble_eq.mp rfl) rfl rfl rfl rfl ?_
                      refine w_t (np := 1) (l2 := [some (eI (13))]) (s2 := [eI (13)]) rfl rfl rfl ?_
                      refine w_t (np := 3) (l2 := [some (eI (13))]) (s2 := [eI (10), eI (13)]) rfl rfl rfl ?_
                      refine w_t (np := 4) (l2 := [some (eI (13))]) (s2 := [eI (3)]) rfl rfl rfl ?_
                      refine w_t (np := 6) (l2 := [some (eI (13))]) (s2 := [eI (10), eI (3)]) rfl rfl rfl ?_
                      refine w_t (np := 7) (l2 := [some (eI (13))]) (s2 := [eI (13)]) rfl (b_iadd rfl) rfl ?_
                      refine w_t (np := 9) (l2 := [some (eI (13))]) (s2 := [eI (10), eI (13)]) rfl rfl rfl ?_
                      refine w_t (np := 10) (l2 := [some (eI (13))]) (s2 := [eI (3)]) rfl rfl rfl ?_
                      refine b_ri rfl rfl ?_
                      show ex_q (dt_fg L ρ) rc (d + 1, (327, 38, [some (eR a0), some (eI (5)), some (eI (8))], [eI (3), eR v2]), f :: F, μ)
                      refine j_b3 (np := 39) rfl rfl hI b4 (by decide) (n := 10) rfl rfl (lo := 0) (hi := 1) (fun _ => rfl) (by decide) (by decide) ?_
                      intro v42 e43 b44
                      refine b_ine (t1 := 48) (t2 := 42) rfl rfl rfl (ev_w_in (by omega) (by omega)) (fun g45 => ?_) (fun g45 => ?_)
                      · have b46 : 1 ≤ v42 ∧ v42 ≤ 1 := by omega
                        refine w_t (np := 49) (l2 := [some (eR a0), some (eI (5)), some (eI (8))]) (s2 := [eI (8)]) rfl rfl rfl ?_
                        exact b_ri rfl rfl (K (8) (by decide) (gG_e (gG_c (r := μ.1 v2) (d := 5) (show μ.1 v2 5 = 0 from (e7).trans (by omega)) (fun z9 => by have z8 := (show μ.1 v2 4 = v10 from e11); have z7 : μ.1 v2 4 = 0 := z9; omega) (gN_s (show μ.1 v2 6 = 0 from (e15).trans (by omega)) (gN_s (show μ.1 v2 7 = 0 from (e19).trans (by omega)) (gN_s (show μ.1 v2 8 = 0 from (e23).trans (by omega)) (gN_s (show μ.1 v2 9 = 0 from (e27).trans (by omega)) (gN_s (show μ.1 v2 0 = 0 from (e31).trans (by omega)) (gN_s (show μ.1 v2 1 = 0 from (e35).trans (by omega)) (gN_s (show μ.1 v2 2 = 0 from (e39).trans (by omega)) (gN_e (fun z9 => by have z8 := (show μ.1 v2 3 = v42 from e43); have z7 : μ.1 v2 3 = 0 := z9; omega) rfl))))))))) e3))
                      · have b46 : 0 ≤ v42 ∧ v42 ≤ 0 := by omega
                        refine w_t (np := 45) (l2 := [some (eR a0), some (eI (5)), some (eI (9))]) (s2 := []) rfl (b_iinc rfl rfl rfl) rfl ?_
                        refine w_go (t1 := 28) rfl rfl ?_
                        refine w_t (np := 29) (l2 := [some (eR a0), some (eI (5)), some (eI (9))]) (s2 := [eR a0]) rfl (s_an rfl (pos_g hI gA0 (by decide))) rfl ?_
                        refine w_gf (np := 32) (v := eR v2) rfl rfl (hI.kd gA0 (by decide) (n := 69) rfl) (by rw [e3]; rfl) ?_
                        refine w_t (np := 33) (l2 := [some (eR a0), some (eI (5)), some (eI (9))]) (s2 := [eI (5), eR v2]) rfl rfl rfl ?_
                        refine w_t (np := 34) (l2 := [some (eR a0), some (eI (5)), some (eI (9))]) (s2 := [eI (9), eI (5), eR v2]) rfl rfl rfl ?_
                        refine w_t (np := 35) (l2 := [some (eR a0), some (eI (5)), some (eI (9))]) (s2 := [eI (14), eR v2]) rfl (b_iadd rfl) rfl ?_
                        refine w_cu (np := 38) (as := [eI (14)]) (l2 := [some (eI (14))]) (rest := [eR v2]) rfl rfl rfl (Nat.ble_eq.mp rfl) rfl rfl rfl rfl ?_
                        refine w_t (np := 1) (l2 := [some (eI (14))]) (s2 := [eI (14)]) rfl rfl rfl ?_
                        refine w_t (np := 3) (l2 := [some (eI (14))]) (s2 := [eI (10), eI (14)]) rfl rfl rfl ?_
                        refine w_t (np := 4) (l2 := [some (eI (14))]) (s2 := [eI (4)]) rfl rfl rfl ?_
                        refine w_t (np := 6) (l2 := [some (eI (14))]) (s2 := [eI (10), eI (4)]) rfl rfl rfl ?_
                        refine w_t (np := 7) (l2 := [some (eI (14))]) (s2 := [eI (14)]) rfl (b_iadd rfl) rfl ?_
                        refine w_t (np := 9) (l2 := [some (eI (14))]) (s2 := [eI (10), eI (14)]) rfl rfl rfl ?_
                        refine w_t (np := 10) (l2 := [some (eI (14))]) (s2 := [eI (4)]) rfl rfl rfl ?_
                        refine b_ri rfl rfl ?_
                        show ex_q (dt_fg L ρ) rc (d + 1, (327, 38, [some (eR a0), some (eI (5)), some (eI (9))], [eI (4), eR v2]), f :: F, μ)
                        refine j_b3 (np := 39) rfl rfl hI b4 (by decide) (n := 10) rfl rfl (lo := 0) (hi := 1) (fun _ => rfl) (by decide) (by decide) ?_
                        intro v46 e47 b48
                        have e47 := e47.symm.trans e11
                        rw [e47]
                        refine b_ine (t1 := 48) (t2 := 42) rfl rfl rfl (ev_w_in (by omega) (by omega)) (fun g49 => ?_) (fun g49 => False.elim (by omega))
                        refine w_t (np := 49) (l2 := [some (eR a0), some (eI (5)), some (eI (9))]) (s2 := [eI (9)]) rfl rfl rfl ?_
                        exact b_ri rfl rfl (K (9) (by decide) (gG_e (gG_c (r := μ.1 v2) (d := 5) (show μ.1 v2 5 = 0 from (e7).trans (by omega)) (fun z9 => by have z8 := (show μ.1 v2 4 = v10 from e11); have z7 : μ.1 v2 4 = 0 := z9; omega) (gN_s (show μ.1 v2 6 = 0 from (e15).trans (by omega)) (gN_s (show μ.1 v2 7 = 0 from (e19).trans (by omega)) (gN_s (show μ.1 v2 8 = 0 from (e23).trans (by omega)) (gN_s (show μ.1 v2 9 = 0 from (e27).trans (by omega)) (gN_s (show μ.1 v2 0 = 0 from (e31).trans (by omega)) (gN_s (show μ.1 v2 1 = 0 from (e35).trans (by omega)) (gN_s (show μ.1 v2 2 = 0 from (e39).trans (by omega)) (gN_s (show μ.1 v2 3 = 0 from (e43).trans (by omega)) rfl))))))))) e3))
      · have b14 : 0 ≤ v10 ∧ v10 ≤ 0 := by omega
        refine w_t (np := 25) (l2 := [some (eR a0), some (eI (5)), none]) (s2 := [eI (0)]) rfl rfl rfl ?_
        exact b_ri rfl rfl (K (0) (by decide) (gG_e (gG_b (r := μ.1 v2) (d := 5) (show μ.1 v2 5 = 0 from (e7).trans (by omega)) (show μ.1 v2 4 = 0 from (e11).trans (by omega))) e3))
  · subst g1
    refine w_t (np := 1) (l2 := [some (eR a0), some (eI (6)), none]) (s2 := [eR a0]) rfl (s_an rfl (pos_g hI gA0 (by decide))) rfl ?_
    refine j_gr (np := 4) rfl rfl hI gA0 (by decide) (n := 69) rfl rfl rfl ?_
    intro v2 e3 b4 z5
    have b4 : g v2 = 85 := Nat.eq_of_beq_eq_true b4
    refine w_t (np := 5) (l2 := [some (eR a0), some (eI (6)), none]) (s2 := [eI (6), eR v2]) rfl rfl rfl ?_
    refine j_b3 (np := 6) rfl rfl hI b4 (by decide) (n := 10) rfl rfl (lo := 0) (hi := 1) (fun _ => rfl) (by decide) (by decide) ?_
    intro v6 e7 b8
    refine b_ine (t1 := 24) (t2 := 9) rfl rfl rfl (ev_w_in (by omega) (by omega)) (fun g9 => ?_) (fun g9 => ?_)
    · have b10 : 1 ≤ v6 ∧ v6 ≤ 1 := by omega
      refine w_t (np := 25) (l2 := [some (eR a0), some (eI (6)), none]) (s2 := [eI (0)]) rfl rfl rfl ?_
      exact b_ri rfl rfl (K (0) (by decide) (gG_e (gG_a (r := μ.1 v2) (d := 6) (fun z9 => by have z8 := (show μ.1 v2 6 = v6 from e7); have z7 : μ.1 v2 6 = 0 := z9; omega)) e3))
    · have b10 : 0 ≤ v6 ∧ v6 ≤ 0 := by omega
      refine w_t (np := 10) (l2 := [some (eR a0), some (eI (6)), none]) (s2 := [eR a0]) rfl (s_an rfl (pos_g hI gA0 (by decide))) rfl ?_
      refine w_gf (np := 13) (v := eR v2) rfl rfl (hI.kd gA0 (by decide) (n := 69) rfl) (by rw [e3]; rfl) ?_
      refine w_t (np := 14) (l2 := [some (eR a0), some (eI (6)), none]) (s2 := [eI (6), eR v2]) rfl rfl rfl ?_
      refine w_t (np := 16) (l2 := [some (eR a0), some (eI (6)), none]) (s2 := [eI (9), eI (6), eR v2]) rfl rfl rfl ?_
      refine w_t (np := 17) (l2 := [some (eR a0), some (eI (6)), none]) (s2 := [eI (15), eR v2]) rfl (b_iadd rfl) rfl ?_
      refine w_cu (np := 20) (as := [eI (15)]) (l2 := [some (eI (15))]) (rest := [eR v2]) rfl rfl rfl (Nat.ble_eq.mp rfl) rfl rfl rfl rfl ?_
      refine w_t (np := 1) (l2 := [some (eI (15))]) (s2 := [eI (15)]) rfl rfl rfl ?_
      refine w_t (np := 3) (l2 := [some (eI (15))]) (s2 := [eI (10), eI (15)]) rfl rfl rfl ?_
      refine w_t (np := 4) (l2 := [some (eI (15))]) (s2 := [eI (5)]) rfl rfl rfl ?_
      refine w_t (np := 6) (l2 := [some (eI (15))]) (s2 := [eI (10), eI (5)]) rfl rfl rfl ?_
      refine w_t (np := 7) (l2 := [some (eI (15))]) (s2 := [eI (15)]) rfl (b_iadd rfl) rfl ?_
      refine w_t (np := 9) (l2 := [some (eI (15))]) (s2 := [eI (10), eI (15)]) rfl rfl rfl ?_
      refine w_t (np := 10) (l2 := [some (eI (15))]) (s2 := [eI (5)]) rfl rfl rfl ?_
      refine b_ri rfl rfl ?_
      show ex_q (dt_fg L ρ) rc (d + 1, (327, 20, [some (eR a0), some (eI (6)), none], [eI (5), eR v2]), f :: F, μ)
      refine j_b3 (np := 21) rfl rfl hI b4 (by decide) (n := 10) rfl rfl (lo := 0) (hi := 1) (fun _ => rfl) (by decide) (by decide) ?_
      intro v10 e11 b12
      refine b_ine (t1 := 26) (t2 := 24) rfl rfl rfl (ev_w_in (by omega) (by omega)) (fun g13 => ?_) (fun g13 => ?_)
      · have b14 : 1 ≤ v10 ∧ v10 ≤ 1 := by omega
        refine w_t (np := 27) (l2 := [some (eR a0), some (eI (6)), none]) (s2 := [eI (1)]) rfl rfl rfl ?_
        refine w_t (np := 28) (l2 := [some (eR a0), some (eI (6)), some (eI (1))]) (s2 := []) rfl rfl rfl ?_
        refine w_t (np := 29) (l2 := [some (eR a0), some (eI (6)), some (eI (1))]) (s2 := [eR a0]) rfl (s_an rfl (pos_g hI gA0 (by decide))) rfl ?_
        refine w_gf (np := 32) (v := eR v2) rfl rfl (hI.kd gA0 (by decide) (n := 69) rfl) (by rw [e3]; rfl) ?_
        refine w_t (np := 33) (l2 := [some (eR a0), some (eI (6)), some (eI (1))]) (s2 := [eI (6), eR v2]) rfl rfl rfl ?_
        refine w_t (np := 34) (l2 := [some (eR a0), some (eI (6)), some (eI (1))]) (s2 := [eI (1), eI (6), eR v2]) rfl rfl rfl ?_
        refine w_t (np := 35) (l2 := [some (eR a0), some (eI (6)), some (eI (1))]) (s2 := [eI (7), eR v2]) rfl (b_iadd rfl) rfl ?_
        refine w_cu (np := 38) (as := [eI (7)]) (l2 := [some (eI (7))]) (rest := [eR v2]) rfl rfl rfl (Nat.ble_eq.mp rfl) rfl rfl rfl rfl ?_
        refine w_t (np := 1) (l2 := [some (eI (7))]) (s2 := [eI (7)]) rfl rfl rfl ?_
        refine w_t (np := 3) (l2 := [some (eI (7))]) (s2 := [eI (10), eI (7)]) rfl rfl rfl ?_
        refine w_t (np := 4) (l2 := [some (eI (7))]) (s2 := [eI (7)]) rfl rfl rfl ?_
        refine w_t (np := 6) (l2 := [some (eI (7))]) (s2 := [eI (10), eI (7)]) rfl rfl rfl ?_
        refine w_t (np := 7) (l2 := [some (eI (7))]) (s2 := [eI (17)]) rfl (b_iadd rfl) rfl ?_
        refine w_t (np := 9) (l2 := [some (eI (7))]) (s2 := [eI (10), eI (17)]) rfl rfl rfl ?_
        refine w_t (np := 10) (l2 := [some (eI (7))]) (s2 := [eI (7)]) rfl rfl rfl ?_
        refine b_ri rfl rfl ?_
        show ex_q (dt_fg L ρ) rc (d + 1, (327, 38, [some (eR a0), some (eI (6)), some (eI (1))], [eI (7), eR v2]), f :: F, μ)
        refine j_b3 (np := 39) rfl rfl hI b4 (by decide) (n := 10) rfl rfl (lo := 0) (hi := 1) (fun _ => rfl) (by decide) (by decide) ?_
        intro v14 e15 b16
        refine b_ine (t1 := 48) (t2 := 42) rfl rfl rfl (ev_w_in (by omega) (by omega)) (fun g17 => ?_) (fun g17 => ?_)
        · have b18 : 1 ≤ v14 ∧ v14 ≤ 1 := by omega
          refine w_t (np := 49) (l2 := [some (eR a0), some (eI (6)), some (eI (1))]) (s2 := [eI (1)]) rfl rfl rfl ?_
          exact b_ri rfl rfl (K (1) (by decide) (gG_e (gG_c (r := μ.1 v2) (d := 6) (show μ.1 v2 6 = 0 from (e7).trans (by omega)) (fun z9 => by have z8 := (show μ.1 v2 5 = v10 from e11); have z7 : μ.1 v2 5 = 0 := z9; omega) (gN_e (fun z9 => by have z8 := (show μ.1 v2 7 = v14 from e15); have z7 : μ.1 v2 7 = 0 := z9; omega) rfl)) e3))
        · have b18 : 0 ≤ v14 ∧ v14 ≤ 0 := by omega
          refine w_t (np := 45) (l2 := [some (eR a0), some (eI (6)), some (eI (2))]) (s2 := []) rfl (b_iinc rfl rfl rfl) rfl ?_
          refine w_go (t1 := 28) rfl rfl ?_
          refine w_t (np := 29) (l2 := [some (eR a0), some (eI (6)), some (eI (2))]) (s2 := [eR a0]) rfl (s_an rfl (pos_g hI gA0 (by decide))) rfl ?_
          refine w_gf (np := 32) (v := eR v2) rfl rfl (hI.kd gA0 (by decide) (n := 69) rfl) (by rw [e3]; rfl) ?_
          refine w_t (np := 33) (l2 := [some (eR a0), some (eI (6)), some (eI (2))]) (s2 := [eI (6), eR v2]) rfl rfl rfl ?_
          refine w_t (np := 34) (l2 := [some (eR a0), some (eI (6)), some (eI (2))]) (s2 := [eI (2), eI (6), eR v2]) rfl rfl rfl ?_
          refine w_t (np := 35) (l2 := [some (eR a0), some (eI (6)), some (eI (2))]) (s2 := [eI (8), eR v2]) rfl (b_iadd rfl) rfl ?_
          refine w_cu (np := 38) (as := [eI (8)]) (l2 := [some (eI (8))]) (rest := [eR v2]) rfl rfl rfl (Nat.ble_eq.mp rfl) rfl rfl rfl rfl ?_
          refine w_t (np := 1) (l2 := [some (eI (8))]) (s2 := [eI (8)]) rfl rfl rfl ?_
          refine w_t (np := 3) (l2 := [some (eI (8))]) (s2 := [eI (10), eI (8)]) rfl rfl rfl ?_
          refine w_t (np := 4) (l2 := [some (eI (8))]) (s2 := [eI (8)]) rfl rfl rfl ?_
          refine w_t (np := 6) (l2 := [some (eI (8))]) (s2 := [eI (10), eI (8)]) rfl rfl rfl ?_
          refine w_t (np := 7) (l2 := [some (eI (8))]) (s2 := [eI (18)]) rfl (b_iadd rfl) rfl ?_
          refine w_t (np := 9) (l2 := [some (eI (8))]) (s2 := [eI (10), eI (18)]) rfl rfl rfl ?_
          refine w_t (np := 10) (l2 := [some (eI (8))]) (s2 := [eI (8)]) rfl rfl rfl ?_
          refine b_ri rfl rfl ?_
          show ex_q (dt_fg L ρ) rc (d + 1, (327, 38, [some (eR a0), some (eI (6)), some (eI (2))], [eI (8), eR v2]), f :: F, μ)
          refine j_b3 (np := 39) rfl rfl hI b4 (by decide) (n := 10) rfl rfl (lo := 0) (hi := 1) (fun _ => rfl) (by decide) (by decide) ?_
          intro v18 e19 b20
          refine b_ine (t1 := 48) (t2 := 42) rfl rfl rfl (ev_w_in (by omega) (by omega)) (fun g21 => ?_) (fun g21 => ?_)
          · have b22 : 1 ≤ v18 ∧ v18 ≤ 1 := by omega
            refine w_t (np := 49) (l2 := [some (eR a0), some (eI (6)), some (eI (2))]) (s2 := [eI (2)]) rfl rfl rfl ?_
            exact b_ri rfl rfl (K (2) (by decide) (gG_e (gG_c (r := μ.1 v2) (d := 6) (show μ.1 v2 6 = 0 from (e7).trans (by omega)) (fun z9 => by have z8 := (show μ.1 v2 5 = v10 from e11); have z7 : μ.1 v2 5 = 0 := z9; omega) (gN_s (show μ.1 v2 7 = 0 from (e15).trans (by omega)) (gN_e (fun z9 => by have z8 := (show μ.1 v2 8 = v18 from e19); have z7 : μ.1 v2 8 = 0 := z9; omega) rfl))) e3))
          · have b22 : 0 ≤ v18 ∧ v18 ≤ 0 := by omega
            refine w_t (np := 45) (l2 := [some (eR a0), some (eI (6)), some (eI (3))]) (s2 := []) rfl (b_iinc rfl rfl rfl) rfl ?_
            refine w_go (t1 := 28) rfl rfl ?_
            refine w_t (np := 29) (l2 := [some (eR a0), some (eI (6)), some (eI (3))]) (s2 := [eR a0]) rfl (s_an rfl (pos_g hI gA0 (by decide))) rfl ?_
            refine w_gf (np := 32) (v := eR v2) rfl rfl (hI.kd gA0 (by decide) (n := 69) rfl) (by rw [e3]; rfl) ?_
            refine w_t (np := 33) (l2 := [some (eR a0), some (eI (6)), some (eI (3))]) (s2 := [eI (6), eR v2]) rfl rfl rfl ?_
            refine w_t (np := 34) (l2 := [some (eR a0), some (eI (6)), some (eI (3))]) (s2 := [eI (3), eI (6), eR v2]) rfl rfl rfl ?_
            refine w_t (np := 35) (l2 := [some (eR a0), some (eI (6)), some (eI (3))]) (s2 := [eI (9), eR v2]) rfl (b_iadd rfl) rfl ?_
            refine w_cu (np := 38) (as := [eI (9)]) (l2 := [some (eI (9))]) (rest := [eR v2]) rfl rfl rfl (Nat.ble_eq.mp rfl) rfl rfl rfl rfl ?_
            refine w_t (np := 1) (l2 := [some (eI (9))]) (s2 := [eI (9)]) rfl rfl rfl ?_
            refine w_t (np := 3) (l2 := [some (eI (9))]) (s2 := [eI (10), eI (9)]) rfl rfl rfl ?_
            refine w_t (np := 4) (l2 := [some (eI (9))]) (s2 := [eI (9)]) rfl rfl rfl ?_
            refine w_t (np := 6) (l2 := [some (eI (9))]) (s2 := [eI (10), eI (9)]) rfl rfl rfl ?_
            refine w_t (np := 7) (l2 := [some (eI (9))]) (s2 := [eI (19)]) rfl (b_iadd rfl) rfl ?_
            refine w_t (np := 9) (l2 := [some (eI (9))]) (s2 := [eI (10), eI (19)]) rfl rfl rfl ?_
            refine w_t (np := 10) (l2 := [some (eI (9))]) (s2 := [eI (9)]) rfl rfl rfl ?_
            refine b_ri rfl rfl ?_
            show ex_q (dt_fg L ρ) rc (d + 1, (327, 38, [some (eR a0), some (eI (6)), some (eI (3))], [eI (9), eR v2]), f :: F, μ)
            refine j_b3 (np := 39) rfl rfl hI b4 (by decide) (n := 10) rfl rfl (lo := 0) (hi := 1) (fun _ => rfl) (by decide) (by decide) ?_
            intro v22 e23 b24
            refine b_ine (t1 := 48) (t2 := 42) rfl rfl rfl (ev_w_in (by omega) (by omega)) (fun g25 => ?_) (fun g25 => ?_)
            · have b26 : 1 ≤ v22 ∧ v22 ≤ 1 := by omega
              refine w_t (np := 49) (l2 := [some (eR a0), some (eI (6)), some (eI (3))]) (s2 := [eI (3)]) rfl rfl rfl ?_
              exact b_ri rfl rfl (K (3) (by decide) (gG_e (gG_c (r := μ.1 v2) (d := 6) (show μ.1 v2 6 = 0 from (e7).trans (by omega)) (fun z9 => by have z8 := (show μ.1 v2 5 = v10 from e11); have z7 : μ.1 v2 5 = 0 := z9; omega) (gN_s (show μ.1 v2 7 = 0 from (e15).trans (by omega)) (gN_s (show μ.1 v2 8 = 0 from (e19).trans (by omega)) (gN_e (fun z9 => by have z8 := (show μ.1 v2 9 = v22 from e23); have z7 : μ.1 v2 9 = 0 := z9; omega) rfl)))) e3))
            · have b26 : 0 ≤ v22 ∧ v22 ≤ 0 := by omega
              refine w_t (np := 45) (l2 := [some (eR a0), some (eI (6)), some (eI (4))]) (s2 := []) rfl (b_iinc rfl rfl rfl) rfl ?_
              refine w_go (t1 := 28) rfl rfl ?_
              refine w_t (np := 29) (l2 := [some (eR a0), some (eI (6)), some (eI (4))]) (s2 := [eR a0]) rfl (s_an rfl (pos_g hI gA0 (by decide))) rfl ?_
              refine w_gf (np := 32) (v := eR v2) rfl rfl (hI.kd gA0 (by decide) (n := 69) rfl) (by rw [e3]; rfl) ?_
              refine w_t (np := 33) (l2 := [some (eR a0), some (eI (6)), some (eI (4))]) (s2 := [eI (6), eR v2]) rfl rfl rfl ?_
              refine w_t (np := 34) (l2 := [some (eR a0), some (eI (6)), some (eI (4))]) (s2 := [eI (4), eI (6), eR v2]) rfl rfl rfl ?_
              refine w_t (np := 35) (l2 := [some (eR a0), some (eI (6)), some (eI (4))]) (s2 := [eI (10), eR v2]) rfl (b_iadd rfl) rfl ?_
              refine w_cu (np := 38) (as := [eI (10)]) (l2 := [some (eI (10))]) (rest := [eR v2]) rfl rfl rfl (Nat.ble_eq.mp rfl) rfl rfl rfl rfl ?_
              refine w_t (np := 1) (l2 := [some (eI (10))]) (s2 := [eI (10)]) rfl rfl rfl ?_
              refine w_t (np := 3) (l2 := [some (eI (10))]) (s2 := [eI (10), eI (10)]) rfl rfl rfl ?_
              refine w_t (np := 4) (l2 := [some (eI (10))]) (s2 := [eI (0)]) rfl rfl rfl ?_
              refine w_t (np := 6) (l2 := [some (eI (10))]) (s2 := [eI (10), eI (0)]) rfl rfl rfl ?_
              refine w_t (np := 7) (l2 := [some (eI (10))]) (s2 := [eI (10)]) rfl (b_iadd rfl) rfl ?_
              refine w_t (np := 9) (l2 := [some (eI (10))]) (s2 := [eI (10), eI (10)]) rfl rfl rfl ?_
              refine w_t (np := 10) (l2 := [some (eI (10))]) (s2 := [eI (0)]) rfl rfl rfl ?_
              refine b_ri rfl rfl ?_
              show ex_q (dt_fg L ρ) rc (d + 1, (327, 38, [some (eR a0), some (eI (6)), some (eI (4))], [eI (0), eR v2]), f :: F, μ)
              refine j_b3 (np := 39) rfl rfl hI b4 (by decide) (n := 10) rfl rfl (lo := 0) (hi := 1) (fun _ => rfl) (by decide) (by decide) ?_
              intro v26 e27 b28
              refine b_ine (t1 := 48) (t2 := 42) rfl rfl rfl (ev_w_in (by omega) (by omega)) (fun g29 => ?_) (fun g29 => ?_)
              · have b30 : 1 ≤ v26 ∧ v26 ≤ 1 := by omega
                refine w_t (np := 49) (l2 := [some (eR a0), some (eI (6)), some (eI (4))]) (s2 := [eI (4)]) rfl rfl rfl ?_
                exact b_ri rfl rfl (K (4) (by decide) (gG_e (gG_c (r := μ.1 v2) (d := 6) (show μ.1 v2 6 = 0 from (e7).trans (by omega)) (fun z9 => by have z8 := (show μ.1 v2 5 = v10 from e11); have z7 : μ.1 v2 5 = 0 := z9; omega) (gN_s (show μ.1 v2 7 = 0 from (e15).trans (by omega)) (gN_s (show μ.1 v2 8 = 0 from (e19).trans (by omega)) (gN_s (show μ.1 v2 9 = 0 from (e23).trans (by omega)) (gN_e (fun z9 => by have z8 := (show μ.1 v2 0 = v26 from e27); have z7 : μ.1 v2 0 = 0 := z9; omega) rfl))))) e3))
              · have b30 : 0 ≤ v26 ∧ v26 ≤ 0 := by omega
                refine w_t (np := 45) (l2 := [some (eR a0), some (eI (6)), some (eI (5))]) (s2 := []) rfl (b_iinc rfl rfl rfl) rfl ?_
                refine w_go (t1 := 28) rfl rfl ?_
                refine w_t (np := 29) (l2 := [some (eR a0), some (eI (6)), some (eI (5))]) (s2 := [eR a0]) rfl (s_an rfl (pos_g hI gA0 (by decide))) rfl ?_
                refine w_gf (np := 32) (v := eR v2) rfl rfl (hI.kd gA0 (by decide) (n := 69) rfl) (by rw [e3]; rfl) ?_
                refine w_t (np := 33) (l2 := [some (eR a0), some (eI (6)), some (eI (5))]) (s2 := [eI (6), eR v2]) rfl rfl rfl ?_
                refine w_t (np := 34) (l2 := [some (eR a0), some (eI (6)), some (eI (5))]) (s2 := [eI (5), eI (6), eR v2]) rfl rfl rfl ?_
                refine w_t (np := 35) (l2 := [some (eR a0), some (eI (6)), some (eI (5))]) (s2 := [eI (11), eR v2]) rfl (b_iadd rfl) rfl ?_
                refine w_cu (np := 38) (as := [eI (11)]) (l2 := [some (eI (11))]) (rest := [eR v2]) rfl rfl rfl (Nat.ble_eq.mp rfl) rfl rfl rfl rfl ?_
                refine w_t (np := 1) (l2 := [some (eI (11))]) (s2 := [eI (11)]) rfl rfl rfl ?_
                refine w_t (np := 3) (l2 := [some (eI (11))]) (s2 := [eI (10), eI (11)]) rfl rfl rfl ?_
                refine w_t (np := 4) (l2 := [some (eI (11))]) (s2 := [eI (1)]) rfl rfl rfl ?_
                refine w_t (np := 6) (l2 := [some (eI (11))]) (s2 := [eI (10), eI (1)]) rfl rfl rfl ?_
                refine w_t (np := 7) (l2 := [some (eI (11))]) (s2 := [eI (11)]) rfl (b_iadd rfl) rfl ?_
                refine w_t (np := 9) (l2 := [some (eI (11))]) (s2 := [eI (10), eI (11)]) rfl rfl rfl ?_
                refine w_t (np := 10) (l2 := [some (eI (11))]) (s2 := [eI (1)]) rfl rfl rfl ?_
                refine b_ri rfl rfl ?_
                show ex_q (dt_fg L ρ) rc (d + 1, (327, 38, [some (eR a0), some (eI (6)), some (eI (5))], [eI (1), eR v2]), f :: F, μ)
                refine j_b3 (np := 39) rfl rfl hI b4 (by decide) (n := 10) rfl rfl (lo := 0) (hi := 1) (fun _ => rfl) (by decide) (by decide) ?_
                intro v30 e31 b32
                refine b_ine (t1 := 48) (t2 := 42) rfl rfl rfl (ev_w_in (by omega) (by omega)) (fun g33 => ?_) (fun g33 => ?_)
                · have b34 : 1 ≤ v30 ∧ v30 ≤ 1 := by omega
                  refine w_t (np := 49) (l2 := [some (eR a0), some (eI (6)), some (eI (5))]) (s2 := [eI (5)]) rfl rfl rfl ?_
                  exact b_ri rfl rfl (K (5) (by decide) (gG_e (gG_c (r := μ.1 v2) (d := 6) (show μ.1 v2 6 = 0 from (e7).trans (by omega)) (fun z9 => by have z8 := (show μ.1 v2 5 = v10 from e11); have z7 : μ.1 v2 5 = 0 := z9; omega) (gN_s (show μ.1 v2 7 = 0 from (e15).trans (by omega)) (gN_s (show μ.1 v2 8 = 0 from (e19).trans (by omega)) (gN_s (show μ.1 v2 9 = 0 from (e23).trans (by omega)) (gN_s (show μ.1 v2 0 = 0 from (e27).trans (by omega)) (gN_e (fun z9 => by have z8 := (show μ.1 v2 1 = v30 from e31); have z7 : μ.1 v2 1 = 0 := z9; omega) rfl)))))) e3))
                · have b34 : 0 ≤ v30 ∧ v30 ≤ 0 := by omega
                  refine w_t (np := 45) (l2 := [some (eR a0), some (eI (6)), some (eI (6))]) (s2 := []) rfl (b_iinc rfl rfl rfl) rfl ?_
                  refine w_go (t1 := 28) rfl rfl ?_
                  refine w_t (np := 29) (l2 := [some (eR a0), some (eI (6)), some (eI (6))]) (s2 := [eR a0]) rfl (s_an rfl (pos_g hI gA0 (by decide))) rfl ?_
                  refine w_gf (np := 32) (v := eR v2) rfl rfl (hI.kd gA0 (by decide) (n := 69) rfl) (by rw [e3]; rfl) ?_
                  refine w_t (np := 33) (l2 := [some (eR a0), some (eI (6)), some (eI (6))]) (s2 := [eI (6), eR v2]) rfl rfl rfl ?_
                  refine w_t (np := 34) (l2 := [some (eR a0), some (eI (6)), some (eI (6))]) (s2 := [eI (6), eI (6), eR v2]) rfl rfl rfl ?_
                  refine w_t (np := 35) (l2 := [some (eR a0), some (eI (6)), some (eI (6))]) (s2 := [eI (12), eR v2]) rfl (b_iadd rfl) rfl ?_
                  refine w_cu (np := 38) (as := [eI (12)]) (l2 := [some (eI (12))]) (rest := [eR v2]) rfl rfl rfl (Nat.ble_eq.mp rfl) rfl rfl rfl rfl ?_
                  refine w_t (np := 1) (l2 := [some (eI (12))]) (s2 := [eI (12)]) rfl rfl rfl ?_
                  refine w_t (np := 3) (l2 := [some (eI (12))]) (s2 := [eI (10), eI (12)]) rfl rfl rfl ?_
                  refine w_t (np := 4) (l2 := [some (eI (12))]) (s2 := [eI (2)]) rfl rfl rfl ?_
                  refine w_t (np := 6) (l2 := [some (eI (12))]) (s2 := [eI (10), eI (2)]) rfl rfl rfl ?_
                  refine w_t (np := 7) (l2 := [some (eI (12))]) (s2 := [eI (12)]) rfl (b_iadd rfl) rfl ?_
                  refine w_t (np := 9) (l2 := [some (eI (12))]) (s2 := [eI (10), eI (12)]) rfl rfl rfl ?_
                  refine w_t (np := 10) (l2 := [some (eI (12))]) (s2 := [eI (2)]) rfl rfl rfl ?_
                  refine b_ri rfl rfl ?_
                  show ex_q (dt_fg L ρ) rc (d + 1, (327, 38, [some (eR a0), some (eI (6)), some (eI (6))], [eI (2), eR v2]), f :: F, μ)
                  refine j_b3 (np := 39) rfl rfl hI b4 (by decide) (n := 10) rfl rfl (lo := 0) (hi := 1) (fun _ => rfl) (by decide) (by decide) ?_
                  intro v34 e35 b36
                  refine b_ine (t1 := 48) (t2 := 42) rfl rfl rfl (ev_w_in (by omega) (by omega)) (fun g37 => ?_) (fun g37 => ?_)
                  · have b38 : 1 ≤ v34 ∧ v34 ≤ 1 := by omega
                    refine w_t (np := 49) (l2 := [some (eR a0), some (eI (6)), some (eI (6))]) (s2 := [eI (6)]) rfl rfl rfl ?_
                    exact b_ri rfl rfl (K (6) (by decide) (gG_e (gG_c (r := μ.1 v2) (d := 6) (show μ.1 v2 6 = 0 from (e7).trans (by omega)) (fun z9 => by have z8 := (show μ.1 v2 5 = v10 from e11); have z7 : μ.1 v2 5 = 0 := z9; omega) (gN_s (show μ.1 v2 7 = 0 from (e15).trans (by omega)) (gN_s (show μ.1 v2 8 = 0 from (e19).trans (by omega)) (gN_s (show μ.1 v2 9 = 0 from (e23).trans (by omega)) (gN_s (show μ.1 v2 0 = 0 from (e27).trans (by omega)) (gN_s (show μ.1 v2 1 = 0 from (e31).trans (by omega)) (gN_e (fun z9 => by have z8 := (show μ.1 v2 2 = v34 from e35); have z7 : μ.1 v2 2 = 0 := z9; omega) rfl))))))) e3))
                  · have b38 : 0 ≤ v34 ∧ v34 ≤ 0 := by omega
                    refine w_t (np := 45) (l2 := [some (eR a0), some (eI (6)), some (eI (7))]) (s2 := []) rfl (b_iinc rfl rfl rfl) rfl ?_
                    refine w_go (t1 := 28) rfl rfl ?_
                    refine w_t (np := 29) (l2 := [some (eR a0), some (eI (6)), some (eI (7))]) (s2 := [eR a0]) rfl (s_an rfl (pos_g hI gA0 (by decide))) rfl ?_
                    refine w_gf (np := 32) (v := eR v2) rfl rfl (hI.kd gA0 (by decide) (n := 69) rfl) (by rw [e3]; rfl) ?_
                    refine w_t (np := 33) (l2 := [some (eR a0), some (eI (6)), some (eI (7))]) (s2 := [eI (6), eR v2]) rfl rfl rfl ?_
                    refine w_t (np := 34) (l2 := [some (eR a0), some (eI (6)), some (eI (7))]) (s2 := [eI (7), eI (6), eR v2]) rfl rfl rfl ?_
                    refine w_t (np := 35) (l2 := [some (eR a0), some (eI (6)), some (eI (7))]) (s2 := [eI (13), eR v2]) rfl (b_iadd rfl) rfl ?_
                    refine w_cu (np := 38) (as := [eI (13)]) (l2 := [some (eI (13))]) (rest := [eR v2]) rfl rfl rfl (Nat.ble_eq.mp rfl) rfl rfl rfl rfl ?_
                    refine w_t (np := 1) (l2 := [some (eI (13))]) (s2 := [eI (13)]) rfl rfl rfl ?_
                    refine w_t (np := 3) (l2 := [some (eI (13))]) (s2 := [eI (10), eI (13)]) rfl rfl rfl ?_
                    refine w_t (np := 4) (l2 := [some (eI (13))]) (s2 := [eI (3)]) rfl rfl rfl ?_
                    refine w_t (np := 6) (l2 := [some (eI (13))]) (s2 := [eI (10), eI (3)]) rfl rfl rfl ?_
                    refine w_t (np := 7) (l2 := [some (eI (13))]) (s2 := [eI (13)]) rfl (b_iadd rfl) rfl ?_
                    refine w_t (np := 9) (l2 := [some (eI (13))]) (s2 := [eI (10), eI (13)]) rfl rfl rfl ?_
                    refine w_t (np := 10) (l2 := [some (eI (13))]) (s2 := [eI (3)]) rfl rfl rfl ?_
                    refine b_ri rfl rfl ?_
                    show ex_q (dt_fg L ρ) rc (d + 1, (327, 38, [some (eR a0), some (eI (6)), some (eI (7))], [eI (3), eR v2]), f :: F, μ)
                    refine j_b3 (np := 39) rfl rfl hI b4 (by decide) (n := 10) rfl rfl (lo := 0) (hi := 1) (fun _ => rfl) (by decide) (by decide) ?_
                    intro v38 e39 b40
                    refine b_ine (t1 := 48) (t2 := 42) rfl rfl rfl (ev_w_in (by omega) (by omega)) (fun g41 => ?_) (fun g41 => ?_)
                    · have b42 : 1 ≤ v38 ∧ v38 ≤ 1 := by omega
                      refine w_t (np := 49) (l2 := [some (eR a0), some (eI (6)), some (eI (7))]) (s2 := [eI (7)]) rfl rfl rfl ?_
                      exact b_ri rfl rfl (K (7) (by decide) (gG_e (gG_c (r := μ.1 v2) (d := 6) (show μ.1 v2 6 = 0 from (e7).trans (by omega)) (fun z9 => by have z8 := (show μ.1 v2 5 = v10 from e11); have z7 : μ.1 v2 5 = 0 := z9; omega) (gN_s (show μ.1 v2 7 = 0 from (e15).trans (by omega)) (gN_s (show μ.1 v2 8 = 0 from (e19).trans (by omega)) (gN_s (show μ.1 v2 9 = 0 from (e23).trans (by omega)) (gN_s (show μ.1 v2 0 = 0 from (e27).trans (by omega)) (gN_s (show μ.1 v2 1 = 0 from (e31).trans (by omega)) (gN_s (show μ.1 v2 2 = 0 from (e35).trans (by omega)) (gN_e (fun z9 => by have z8 := (show μ.1 v2 3 = v38 from e39); have z7 : μ.1 v2 3 = 0 := z9; omega) rfl)))))))) e3))
                    · have b42 : 0 ≤ v38 ∧ v38 ≤ 0 := by omega
                      refine w_t (np := 45) (l2 := [some (eR a0), some (eI (6)), some (eI (8))]) (s2 := []) rfl (b_iinc rfl rfl rfl) rfl ?_
                      refine w_go (t1 := 28) rfl rfl ?_
                      refine w_t (np := 29) (l2 := [some (eR a0), some (eI (6)), some (eI (8))]) (s2 := [eR a0]) rfl (s_an rfl (pos_g hI gA0 (by decide))) rfl ?_
                      refine w_gf (np := 32) (v := eR v2) rfl rfl (hI.kd gA0 (by decide) (n := 69) rfl) (by rw [e3]; rfl) ?_
                      refine w_t (np := 33) (l2 := [some (eR a0), some (eI (6)), some (eI (8))]) (s2 := [eI (6), eR v2]) rfl rfl rfl ?_
                      refine w_t (np := 34) (l2 := [some (eR a0), some (eI (6)), some (eI (8))]) (s2 := [eI (8), eI (6), eR v2]) rfl rfl rfl ?_
                      refine w_t (np := 35) (l2 := [some (eR a0), some (eI (6)), some (eI (8))]) (s2 := [eI (14), eR v2]) rfl (b_iadd rfl) rfl ?_
                      refine w_cu (np := 38) (as := [eI (14)]) (l2 := [some (eI (14))]) (rest := [eR v2]) rfl rfl rfl (Nat.ble_eq.mp rfl) rfl rfl rfl rfl ?_
                      refine w_t (np := 1) (l2 := [some (eI (14))]) (s2 := [eI (14)]) rfl rfl rfl ?_
                      refine w_t (np := 3) (l2 := [some (eI (14))]) (s2 := [eI (10), eI (14)]) rfl rfl rfl ?_
                      refine w_t (np := 4) (l2 := [some (eI (14))]) (s2 := [eI (4)]) rfl rfl rfl ?_
                      refine w_t (np := 6) (l2 := [some (eI (14))]) (s2 := [eI (10), eI (4)]) rfl rfl rfl ?_
                      refine w_t (np := 7) (l2 := [some (eI (14))]) (s2 := [eI (14)]) rfl (b_iadd rfl) rfl ?_
                      refine w_t (np := 9) (l2 := [some (eI (14))]) (s2 := [eI (10), eI (14)]) rfl rfl rfl ?_
                      refine w_t (np := 10) (l2 := [some (eI (14))]) (s2 := [eI (4)]) rfl rfl rfl ?_
                      refine b_ri rfl rfl ?_
                      show ex_q (dt_fg L ρ) rc (d + 1, (327, 38, [some (eR a0), some (eI (6)), some (eI (8))], [eI (4), eR v2]), f :: F, μ)
                      refine j_b3 (np := 39) rfl rfl hI b4 (by decide) (n := 10) rfl rfl (lo := 0) (hi := 1) (fun _ => rfl) (by decide) (by decide) ?_
                      intro v42 e43 b44
                      refine b_ine (t1 := 48) (t2 := 42) rfl rfl rfl (ev_w_in (by omega) (by omega)) (fun g45 => ?_) (fun g45 => ?_)
                      · have b46 : 1 ≤ v42 ∧ v42 ≤ 1 := by omega
                        refine w_t (np := 49) (l2 := [some (eR a0), some (eI (6)), some (eI (8))]) (s2 := [eI (8)]) rfl rfl rfl ?_
                        exact b_ri rfl rfl (K (8) (by decide) (gG_e (gG_c (r := μ.1 v2) (d := 6) (show μ.1 v2 6 = 0 from (e7).trans (by omega)) (fun z9 => by have z8 := (show μ.1 v2 5 = v10 from e11); have z7 : μ.1 v2 5 = 0 := z9; omega) (gN_s (show μ.1 v2 7 = 0 from (e15).trans (by omega)) (gN_s (show μ.1 v2 8 = 0 from (e19).trans (by omega)) (gN_s (show μ.1 v2 9 = 0 from (e23).trans (by omega)) (gN_s (show μ.1 v2 0 = 0 from (e27).trans (by omega)) (gN_s (show μ.1 v2 1 = 0 from (e31).trans (by omega)) (gN_s (show μ.1 v2 2 = 0 from (e35).trans (by omega)) (gN_s (show μ.1 v2 3 = 0 from (e39).trans (by omega)) (gN_e (fun z9 => by have z8 := (show μ.1 v2 4 = v42 from e43); have z7 : μ.1 v2 4 = 0 := z9; omega) rfl))))))))) e3))
                      · have b46 : 0 ≤ v42 ∧ v42 ≤ 0 := by omega
                        refine w_t (np := 45) (l2 := [some (eR a0), some (eI (6)), some (eI (9))]) (s2 := []) rfl (b_iinc rfl rfl rfl) rfl ?_
                        refine w_go (t1 := 28) rfl rfl ?_
                        refine w_t (np := 29) (l2 := [some (eR a0), some (eI (6)), some (eI (9))]) (s2 := [eR a0]) rfl (s_an rfl (pos_g hI gA0 (by decide))) rfl ?_
                        refine w_gf (np := 32) (v := eR v2) rfl rfl (hI.kd gA0 (by decide) (n := 69) rfl) (by rw [e3]; rfl) ?_
                        refine w_t (np := 33) (l2 := [some (eR a0), some (eI (6)), some (eI (9))]) (s2 := [eI (6), eR v2]) rfl rfl rfl ?_
                        refine w_t (np := 34) (l2 := [some (eR a0), some (eI (6)), some (eI (9))]) (s2 := [eI (9), eI (6), eR v2]) rfl rfl rfl ?_
                        refine w_t (np := 35) (l2 := [some (eR a0), some (eI (6)), some (eI (9))]) (s2 := [eI (15), eR v2]) rfl (b_iadd rfl) rfl ?_
                        refine w_cu (np := 38) (as := [eI (15)]) (l2 := [some (eI (15))]) (rest := [eR v2]) rfl rfl rfl (Nat.ble_eq.mp rfl) rfl rfl rfl rfl ?_
                        refine w_t (np := 1) (l2 := [some (eI (15))]) (s2 := [eI (15)]) rfl rfl rfl ?_
                        refine w_t (np := 3) (l2 := [some (eI (15))]) (s2 := [eI (10), eI (15)]) rfl rfl rfl ?_
                        refine w_t (np := 4) (l2 := [some (eI (15))]) (s2 := [eI (5)]) rfl rfl rfl ?_
                        refine w_t (np := 6) (l2 := [some (eI (15))]) (s2 := [eI (10), eI (5)]) rfl rfl rfl ?_
                        refine w_t (np := 7) (l2 := [some (eI (15))]) (s2 := [eI (15)]) rfl (b_iadd rfl) rfl ?_
                        refine w_t (np := 9) (l2 := [some (eI (15))]) (s2 := [eI (10), eI (15)]) rfl rfl rfl ?_
                        refine w_t (np := 10) (l2 := [some (eI (15))]) (s2 := [eI (5)]) rfl rfl rfl ?_
                        refine b_ri rfl rfl ?_
                        show ex_q (dt_fg L ρ) rc (d + 1, (327, 38, [some (eR a0), some (eI (6)), some (eI (9))], [eI (5), eR v2]), f :: F, μ)
                        refine j_b3 (np := 39) rfl rfl hI b4 (by decide) (n := 10) rfl rfl (lo := 0) (hi := 1) (fun _ => rfl) (by decide) (by decide) ?_
                        intro v46 e47 b48
                        have e47 := e47.symm.trans e11
                        rw [e47]
                        refine b_ine (t1 := 48) (t2 := 42) rfl rfl rfl (ev_w_in (by omega) (by omega)) (fun g49 => ?_) (fun g49 => False.elim (by omega))
                        refine w_t (np := 49) (l2 := [some (eR a0), some (eI (6)), some (eI (9))]) (s2 := [eI (9)]) rfl rfl rfl ?_
                        exact b_ri rfl rfl (K (9) (by decide) (gG_e (gG_c (r := μ.1 v2) (d := 6) (show μ.1 v2 6 = 0 from (e7).trans (by omega)) (fun z9 => by have z8 := (show μ.1 v2 5 = v10 from e11); have z7 : μ.1 v2 5 = 0 := z9; omega) (gN_s (show μ.1 v2 7 = 0 from (e15).trans (by omega)) (gN_s (show μ.1 v2 8 = 0 from (e19).trans (by omega)) (gN_s (show μ.1 v2 9 = 0 from (e23).trans (by omega)) (gN_s (show μ.1 v2 0 = 0 from (e27).trans (by omega)) (gN_s (show μ.1 v2 1 = 0 from (e31).trans (by omega)) (gN_s (show μ.1 v2 2 = 0 from (e35).trans (by omega)) (gN_s (show μ.1 v2 3 = 0 from (e39).trans (by omega)) (gN_s (show μ.1 v2 4 = 0 from (e43).trans (by omega)) rfl))))))))) e3))
      · have b14 : 0 ≤ v10 ∧ v10 ≤ 0 := by omega
        refine w_t (np := 25) (l2 := [some (eR a0), some (eI (6)), none]) (s2 := [eI (0)]) rfl rfl rfl ?_
        exact b_ri rfl rfl (K (0) (by decide) (gG_e (gG_b (r := μ.1 v2) (d := 6) (show μ.1 v2 6 = 0 from (e7).trans (by omega)) (show μ.1 v2 5 = 0 from (e11).trans (by omega))) e3))
  · subst g1
    refine w_t (np := 1) (l2 := [some (eR a0), some (eI (7)), none]) (s2 := [eR a0]) rfl (s_an rfl (pos_g hI gA0 (by decide))) rfl ?_
    refine j_gr (np := 4) rfl rfl hI gA0 (by decide) (n := 69) rfl rfl rfl ?_
    intro v2 e3 b4 z5
    have b4 : g v2 = 85 := Nat.eq_of_beq_eq_true b4
    refine w_t (np := 5) (l2 := [some (eR a0), some (eI (7)), none]) (s2 := [eI (7), eR v2]) rfl rfl rfl ?_
    refine j_b3 (np := 6) rfl rfl hI b4 (by decide) (n := 10) rfl rfl (lo := 0) (hi := 1) (fun _ => rfl) (by decide) (by decide) ?_
    intro v6 e7 b8
    refine b_ine (t1 := 24) (t2 := 9) rfl rfl rfl (ev_w_in (by omega) (by omega)) (fun g9 => ?_) (fun g9 => ?_)
    · have b10 : 1 ≤ v6 ∧ v6 ≤ 1 := by omega
      refine w_t (np := 25) (l2 := [some (eR a0), some (eI (7)), none]) (s2 := [eI (0)]) rfl rfl rfl ?_
      exact b_ri rfl rfl (K (0) (by decide) (gG_e (gG_a (r := μ.1 v2) (d := 7) (fun z9 => by have z8 := (show μ.1 v2 7 = v6 from e7); have z7 : μ.1 v2 7 = 0 := z9; omega)) e3))
    · have b10 : 0 ≤ v6 ∧ v6 ≤ 0 := by omega
      refine w_t (np := 10) (l2 := [some (eR a0), some (eI (7)), none]) (s2 := [eR a0]) rfl (s_an rfl (pos_g hI gA0 (by decide))) rfl ?_
      refine w_gf (np := 13) (v := eR v2) rfl rfl (hI.kd gA0 (by decide) (n := 69) rfl) (by rw [e3]; rfl) ?_
      refine w_t (np := 14) (l2 := [some (eR a0), some (eI (7)), none]) (s2 := [eI (7), eR v2]) rfl rfl rfl ?_
      refine w_t (np := 16) (l2 := [some (eR a0), some (eI (7)), none]) (s2 := [eI (9), eI (7), eR v2]) rfl rfl rfl ?_
      refine w_t (np := 17) (l2 := [some (eR a0), some (eI (7)), none]) (s2 := [eI (16), eR v2]) rfl (b_iadd rfl) rfl ?_
      refine w_cu (np := 20) (as := [eI (16)]) (l2 := [some (eI (16))]) (rest := [eR v2]) rfl rfl rfl (Nat.ble_eq.mp rfl) rfl rfl rfl rfl ?_
      refine w_t (np := 1) (l2 := [some (eI (16))]) (s2 := [eI (16)]) rfl rfl rfl ?_
      refine w_t (np := 3) (l2 := [some (eI (16))]) (s2 := [eI (10), eI (16)]) rfl rfl rfl ?_
      refine w_t (np := 4) (l2 := [some (eI (16))]) (s2 := [eI (6)]) rfl rfl rfl ?_
      refine w_t (np := 6) (l2 := [some (eI (16))]) (s2 := [eI (10), eI (6)]) rfl rfl rfl ?_
      refine w_t (np := 7) (l2 := [some (eI (16))]) (s2 := [eI (16)]) rfl (b_iadd rfl) rfl ?_
      refine w_t (np := 9) (l2 := [some (eI (16))]) (s2 := [eI (10), eI (16)]) rfl rfl rfl ?_
      refine w_t (np := 10) (l2 := [some (eI (16))]) (s2 := [eI (6)]) rfl rfl rfl ?_
      refine b_ri rfl rfl ?_
      show ex_q (dt_fg L ρ) rc (d + 1, (327, 20, [some (eR a0), some (eI (7)), none], [eI (6), eR v2]), f :: F, μ)
      refine j_b3 (np := 21) rfl rfl hI b4 (by decide) (n := 10) rfl rfl (lo := 0) (hi := 1) (fun _ => rfl) (by decide) (by decide) ?_
      intro v10 e11 b12
      refine b_ine (t1 := 26) (t2 := 24) rfl rfl rfl (ev_w_in (by omega) (by omega)) (fun g13 => ?_) (fun g13 => ?_)
      · have b14 : 1 ≤ v10 ∧ v10 ≤ 1 := by omega
        refine w_t (np := 27) (l2 := [some (eR a0), some (eI (7)), none]) (s2 := [eI (1)]) rfl rfl rfl ?_
        refine w_t (np := 28) (l2 := [some (eR a0), some (eI (7)), some (eI (1))]) (s2 := []) rfl rfl rfl ?_
        refine w_t (np := 29) (l2 := [some (eR a0), some (eI (7)), some (eI (1))]) (s2 := [eR a0]) rfl (s_an rfl (pos_g hI gA0 (by decide))) rfl ?_
        refine w_gf (np := 32) (v := eR v2) rfl rfl (hI.kd gA0 (by decide) (n := 69) rfl) (by rw [e3]; rfl) ?_
        refine w_t (np := 33) (l2 := [some (eR a0), some (eI (7)), some (eI (1))]) (s2 := [eI (7), eR v2]) rfl rfl rfl ?_
        refine w_t (np := 34) (l2 := [some (eR a0), some (eI (7)), some (eI (1))]) (s2 := [eI (1), eI (7), eR v2]) rfl rfl rfl ?_
        refine w_t (np := 35) (l2 := [some (eR a0), some (eI (7)), some (eI (1))]) (s2 := [eI (8), eR v2]) rfl (b_iadd rfl) rfl ?_
        refine w_cu (np := 38) (as := [eI (8)]) (l2 := [some (eI (8))]) (rest := [eR v2]) rfl rfl rfl (Nat.ble_eq.mp rfl) rfl rfl rfl rfl ?_
        refine w_t (np := 1) (l2 := [some (eI (8))]) (s2 := [eI (8)]) rfl rfl rfl ?_
        refine w_t (np := 3) (l2 := [some (eI (8))]) (s2 := [eI (10), eI (8)]) rfl rfl rfl ?_
        refine w_t (np := 4) (l2 := [some (eI (8))]) (s2 := [eI (8)]) rfl rfl rfl ?_
        refine w_t (np := 6) (l2 := [some (eI (8))]) (s2 := [eI (10), eI (8)]) rfl rfl rfl ?_
        refine w_t (np := 7) (l2 := [some (eI (8))]) (s2 := [eI (18)]) rfl (b_iadd rfl) rfl ?_
        refine w_t (np := 9) (l2 := [some (eI (8))]) (s2 := [eI (10), eI (18)]) rfl rfl rfl ?_
        refine w_t (np := 10) (l2 := [some (eI (8))]) (s2 := [eI (8)]) rfl rfl rfl ?_
        refine b_ri rfl rfl ?_
        show ex_q (dt_fg L ρ) rc (d + 1, (327, 38, [some (eR a0), some (eI (7)), some (eI (1))], [eI (8), eR v2]), f :: F, μ)
        refine j_b3 (np := 39) rfl rfl hI b4 (by decide) (n := 10) rfl rfl (lo := 0) (hi := 1) (fun _ => rfl) (by decide) (by decide) ?_
        intro v14 e15 b16
        refine b_ine (t1 := 48) (t2 := 42) rfl rfl rfl (ev_w_in (by omega) (by omega)) (fun g17 => ?_) (fun g17 => ?_)
        · have b18 : 1 ≤ v14 ∧ v14 ≤ 1 := by omega
          refine w_t (np := 49) (l2 := [some (eR a0), some (eI (7)), some (eI (1))]) (s2 := [eI (1)]) rfl rfl rfl ?_
          exact b_ri rfl rfl (K (1) (by decide) (gG_e (gG_c (r := μ.1 v2) (d := 7) (show μ.1 v2 7 = 0 from (e7).trans (by omega)) (fun z9 => by have z8 := (show μ.1 v2 6 = v10 from e11); have z7 : μ.1 v2 6 = 0 := z9; omega) (gN_e (fun z9 => by have z8 := (show μ.1 v2 8 = v14 from e15); have z7 : μ.1 v2 8 = 0 := z9; omega) rfl)) e3))
        · have b18 : 0 ≤ v14 ∧ v14 ≤ 0 := by omega
          refine w_t (np := 45) (l2 := [some (eR a0), some (eI (7)), some (eI (2))]) (s2 := []) rfl (b_iinc rfl rfl rfl) rfl ?_
          refine w_go (t1 := 28) rfl rfl ?_
          refine w_t (np := 29) (l2 := [some (eR a0), some (eI (7)), some (eI (2))]) (s2 := [eR a0]) rfl (s_an rfl (pos_g hI gA0 (by decide))) rfl ?_
          refine w_gf (np := 32) (v := eR v2) rfl rfl (hI.kd gA0 (by decide) (n := 69) rfl) (by rw [e3]; rfl) ?_
          refine w_t (np := 33) (l2 := [some (eR a0), some (eI (7)), some (eI (2))]) (s2 := [eI (7), eR v2]) rfl rfl rfl ?_
          refine w_t (np := 34) (l2 := [some (eR a0), some (eI (7)), some (eI (2))]) (s2 := [eI (2), eI (7), eR v2]) rfl rfl rfl ?_
          refine w_t (np := 35) (l2 := [some (eR a0), some (eI (7)), some (eI (2))]) (s2 := [eI (9), eR v2]) rfl (b_iadd rfl) rfl ?_
          refine w_cu (np := 38) (as := [eI (9)]) (l2 := [some (eI (9))]) (rest := [eR v2]) rfl rfl rfl (Nat.ble_eq.mp rfl) rfl rfl rfl rfl ?_
          refine w_t (np := 1) (l2 := [some (eI (9))]) (s2 := [eI (9)]) rfl rfl rfl ?_
          refine w_t (np := 3) (l2 := [some (eI (9))]) (s2 := [eI (10), eI (9)]) rfl rfl rfl ?_
          refine w_t (np := 4) (l2 := [some (eI (9))]) (s2 := [eI (9)]) rfl rfl rfl ?_
          refine w_t (np := 6) (l2 := [some (eI (9))]) (s2 := [eI (10), eI (9)]) rfl rfl rfl ?_
          refine w_t (np := 7) (l2 := [some (eI (9))]) (s2 := [eI (19)]) rfl (b_iadd rfl) rfl ?_
          refine w_t (np := 9) (l2 := [some (eI (9))]) (s2 := [eI (10), eI (19)]) rfl rfl rfl ?_
          refine w_t (np := 10) (l2 := [some (eI (9))]) (s2 := [eI (9)]) rfl rfl rfl ?_
          refine b_ri rfl rfl ?_
          show ex_q (dt_fg L ρ) rc (d + 1, (327, 38, [some (eR a0), some (eI (7)), some (eI (2))], [eI (9), eR v2]), f :: F, μ)
          refine j_b3 (np := 39) rfl rfl hI b4 (by decide) (n := 10) rfl rfl (lo := 0) (hi := 1) (fun _ => rfl) (by decide) (by decide) ?_
          intro v18 e19 b20
          refine b_ine (t1 := 48) (t2 := 42) rfl rfl rfl (ev_w_in (by omega) (by omega)) (fun g21 => ?_) (fun g21 => ?_)
          · have b22 : 1 ≤ v18 ∧ v18 ≤ 1 := by omega
            refine w_t (np := 49) (l2 := [some (eR a0), some (eI (7)), some (eI (2))]) (s2 := [eI (2)]) rfl rfl rfl ?_
            exact b_ri rfl rfl (K (2) (by decide) (gG_e (gG_c (r := μ.1 v2) (d := 7) (show μ.1 v2 7 = 0 from (e7).trans (by omega)) (fun z9 => by have z8 := (show μ.1 v2 6 = v10 from e11); have z7 : μ.1 v2 6 = 0 := z9; omega) (gN_s (show μ.1 v2 8 = 0 from (e15).trans (by omega)) (gN_e (fun z9 => by have z8 := (show μ.1 v2 9 = v18 from e19); have z7 : μ.1 v2 9 = 0 := z9; omega) rfl))) e3))
          · have b22 : 0 ≤ v18 ∧ v18 ≤ 0 := by omega
            refine w_t (np := 45) (l2 := [some (eR a0), some (eI (7)), some (eI (3))]) (s2 := []) rfl (b_iinc rfl rfl rfl) rfl ?_
            refine w_go (t1 := 28) rfl rfl ?_
            refine w_t (np := 29) (l2 := [some (eR a0), some (eI (7)), some (eI (3))]) (s2 := [eR a0]) rfl (s_an rfl (pos_g hI gA0 (by decide))) rfl ?_
            refine w_gf (np := 32) (v := eR v2) rfl rfl (hI.kd gA0 (by decide) (n := 69) rfl) (by rw [e3]; rfl) ?_
            refine w_t (np := 33) (l2 := [some (eR a0), some (eI (7)), some (eI (3))]) (s2 := [eI (7), eR v2]) rfl rfl rfl ?_
            refine w_t (np := 34) (l2 := [some (eR a0), some (eI (7)), some (eI (3))]) (s2 := [eI (3), eI (7), eR v2]) rfl rfl rfl ?_
            refine w_t (np := 35) (l2 := [some (eR a0), some (eI (7)), some (eI (3))]) (s2 := [eI (10), eR v2]) rfl (b_iadd rfl) rfl ?_
            refine w_cu (np := 38) (as := [eI (10)]) (l2 := [some (eI (10))]) (rest := [eR v2]) rfl rfl rfl (Nat.ble_eq.mp rfl) rfl rfl rfl rfl ?_
            refine w_t (np := 1) (l2 := [some (eI (10))]) (s2 := [eI (10)]) rfl rfl rfl ?_
            refine w_t (np := 3) (l2 := [some (eI (10))]) (s2 := [eI (10), eI (10)]) rfl rfl rfl ?_
            refine w_t (np := 4) (l2 := [some (eI (10))]) (s2 := [eI (0)]) rfl rfl rfl ?_
            refine w_t (np := 6) (l2 := [some (eI (10))]) (s2 := [eI (10), eI (0)]) rfl rfl rfl ?_
            refine w_t (np := 7) (l2 := [some (eI (10))]) (s2 := [eI (10)]) rfl (b_iadd rfl) rfl ?_
            refine w_t (np := 9) (l2 := [some (eI (10))]) (s2 := [eI (10), eI (10)]) rfl rfl rfl ?_
            refine w_t (np := 10) (l2 := [some (eI (10))]) (s2 := [eI (0)]) rfl rfl rfl ?_
            refine b_ri rfl rfl ?_
            show ex_q (dt_fg L ρ) rc (d + 1, (327, 38, [some (eR a0), some (eI (7)), some (eI (3))], [eI (0), eR v2]), f :: F, μ)
            refine j_b3 (np := 39) rfl rfl hI b4 (by decide) (n := 10) rfl rfl (lo := 0) (hi := 1) (fun _ => rfl) (by decide) (by decide) ?_
            intro v22 e23 b24
            refine b_ine (t1 := 48) (t2 := 42) rfl rfl rfl (ev_w_in (by omega) (by omega)) (fun g25 => ?_) (fun g25 => ?_)
            · have b26 : 1 ≤ v22 ∧ v22 ≤ 1 := by omega
              refine w_t (np := 49) (l2 := [some (eR a0), some (eI (7)), some (eI (3))]) (s2 := [eI (3)]) rfl rfl rfl ?_
              exact b_ri rfl rfl (K (3) (by decide) (gG_e (gG_c (r := μ.1 v2) (d := 7) (show μ.1 v2 7 = 0 from (e7).trans (by omega)) (fun z9 => by have z8 := (show μ.1 v2 6 = v10 from e11); have z7 : μ.1 v2 6 = 0 := z9; omega) (gN_s (show μ.1 v2 8 = 0 from (e15).trans (by omega)) (gN_s (show μ.1 v2 9 = 0 from (e19).trans (by omega)) (gN_e (fun z9 => by have z8 := (show μ.1 v2 0 = v22 from e23); have z7 : μ.1 v2 0 = 0 := z9; omega) rfl)))) e3))
            · have b26 : 0 ≤ v22 ∧ v22 ≤ 0 := by omega
              refine w_t (np := 45) (l2 := [some (eR a0), some (eI (7)), some (eI (4))]) (s2 := []) rfl (b_iinc rfl rfl rfl) rfl ?_
              refine w_go (t1 := 28) rfl rfl ?_
              refine w_t (np := 29) (l2 := [some (eR a0), some (eI (7)), some (eI (4))]) (s2 := [eR a0]) rfl (s_an rfl (pos_g hI gA0 (by decide))) rfl ?_
              refine w_gf (np := 32) (v := eR v2) rfl rfl (hI.kd gA0 (by decide) (n := 69) rfl) (by rw [e3]; rfl) ?_
              refine w_t (np := 33) (l2 := [some (eR a0), some (eI (7)), some (eI (4))]) (s2 := [eI (7), eR v2]) rfl rfl rfl ?_
              refine w_t (np := 34) (l2 := [some (eR a0), some (eI (7)), some (eI (4))]) (s2 := [eI (4), eI (7), eR v2]) rfl rfl rfl ?_
              refine w_t (np := 35) (l2 := [some (eR a0), some (eI (7)), some (eI (4))]) (s2 := [eI (11), eR v2]) rfl (b_iadd rfl) rfl ?_
              refine w_cu (np := 38) (as := [eI (11)]) (l2 := [some (eI (11))]) (rest := [eR v2]) rfl rfl rfl (Nat.ble_eq.mp rfl) rfl rfl rfl rfl ?_
              refine w_t (np := 1) (l2 := [some (eI (11))]) (s2 := [eI (11)]) rfl rfl rfl ?_
              refine w_t (np := 3) (l2 := [some (eI (11))]) (s2 := [eI (10), eI (11)]) rfl rfl rfl ?_
              refine w_t (np := 4) (l2 := [some (eI (11))]) (s2 := [eI (1)]) rfl rfl rfl ?_
              refine w_t (np := 6) (l2 := [some (eI (11))]) (s2 := [eI (10), eI (1)]) rfl rfl rfl ?_
              refine w_t (np := 7) (l2 := [some (eI (11))]) (s2 := [eI (11)]) rfl (b_iadd rfl) rfl ?_
              refine w_t (np := 9) (l2 := [some (eI (11))]) (s2 := [eI (10), eI (11)]) rfl rfl rfl ?_
              refine w_t (np := 10) (l2 := [some (eI (11))]) (s2 := [eI (1)]) rfl rfl rfl ?_
              refine b_ri rfl rfl ?_
              show ex_q (dt_fg L ρ) rc (d + 1, (327, 38, [some (eR a0), some (eI (7)), some (eI (4))], [eI (1), eR v2]), f :: F, μ)
              refine j_b3 (np := 39) rfl rfl hI b4 (by decide) (n := 10) rfl rfl (lo := 0) (hi := 1) (fun _ => rfl) (by decide) (by decide) ?_
              intro v26 e27 b28
              refine b_ine (t1 := 48) (t2 := 42) rfl rfl rfl (ev_w_in (by omega) (by omega)) (fun g29 => ?_) (fun g29 => ?_)
              · have b30 : 1 ≤ v26 ∧ v26 ≤ 1 := by omega
                refine w_t (np := 49) (l2 := [some (eR a0), some (eI (7)), some (eI (4))]) (s2 := [eI (4)]) rfl rfl rfl ?_
                exact b_ri rfl rfl (K (4) (by decide) (gG_e (gG_c (r := μ.1 v2) (d := 7) (show μ.1 v2 7 = 0 from (e7).trans (by omega)) (fun z9 => by have z8 := (show μ.1 v2 6 = v10 from e11); have z7 : μ.1 v2 6 = 0 := z9; omega) (gN_s (show μ.1 v2 8 = 0 from (e15).trans (by omega)) (gN_s (show μ.1 v2 9 = 0 from (e19).trans (by omega)) (gN_s (show μ.1 v2 0 = 0 from (e23).trans (by omega)) (gN_e (fun z9 => by have z8 := (show μ.1 v2 1 = v26 from e27); have z7 : μ.1 v2 1 = 0 := z9; omega) rfl))))) e3))
              · have b30 : 0 ≤ v26 ∧ v26 ≤ 0 := by omega
                refine w_t (np := 45) (l2 := [some (eR a0), some (eI (7)), some (eI (5))]) (s2 := []) rfl (b_iinc rfl rfl rfl) rfl ?_
                refine w_go (t1 := 28) rfl rfl ?_
                refine w_t (np := 29) (l2 := [some (eR a0), some (eI (7)), some (eI (5))]) (s2 := [eR a0]) rfl (s_an rfl (pos_g hI gA0 (by decide))) rfl ?_
                refine w_gf (np := 32) (v := eR v2) rfl rfl (hI.kd gA0 (by decide) (n := 69) rfl) (by rw [e3]; rfl) ?_
                refine w_t (np := 33) (l2 := [some (eR a0), some (eI (7)), some (eI (5))]) (s2 := [eI (7), eR v2]) rfl rfl rfl ?_
                refine w_t (np := 34) (l2 := [some (eR a0), some (eI (7)), some (eI (5))]) (s2 := [eI (5), eI (7), eR v2]) rfl rfl rfl ?_
                refine w_t (np := 35) (l2 := [some (eR a0), some (eI (7)), some (eI (5))]) (s2 := [eI (12), eR v2]) rfl (b_iadd rfl) rfl ?_
                refine w_cu (np := 38) (as := [eI (12)]) (l2 := [some (eI (12))]) (rest := [eR v2]) rfl rfl rfl (Nat.ble_eq.mp rfl) rfl rfl rfl rfl ?_
                refine w_t (np := 1) (l2 := [some (eI (12))]) (s2 := [eI (12)]) rfl rfl rfl ?_
                refine w_t (np := 3) (l2 := [some (eI (12))]) (s2 := [eI (10), eI (12)]) rfl rfl rfl ?_
                refine w_t (np := 4) (l2 := [some (eI (12))]) (s2 := [eI (2)]) rfl rfl rfl ?_
                refine w_t (np := 6) (l2 := [some (eI (12))]) (s2 := [eI (10), eI (2)]) rfl rfl rfl ?_
                refine w_t (np := 7) (l2 := [some (eI (12))]) (s2 := [eI (12)]) rfl (b_iadd rfl) rfl ?_
                refine w_t (np := 9) (l2 := [some (eI (12))]) (s2 := [eI (10), eI (12)]) rfl rfl rfl ?_
                refine w_t (np := 10) (l2 := [some (eI (12))]) (s2 := [eI (2)]) rfl rfl rfl ?_
                refine b_ri rfl rfl ?_
                show ex_q (dt_fg L ρ) rc (d + 1, (327, 38, [some (eR a0), some (eI (7)), some (eI (5))], [eI (2), eR v2]), f :: F, μ)
                refine j_b3 (np := 39) rfl rfl hI b4 (by decide) (n := 10) rfl rfl (lo := 0) (hi := 1) (fun _ => rfl) (by decide) (by decide) ?_
                intro v30 e31 b32
                refine b_ine (t1 := 48) (t2 := 42) rfl rfl rfl (ev_w_in (by omega) (by omega)) (fun g33 => ?_) (fun g33 => ?_)
                · have b34 : 1 ≤ v30 ∧ v30 ≤ 1 := by omega
                  refine w_t (np := 49) (l2 := [some (eR a0), some (eI (7)), some (eI (5))]) (s2 := [eI (5)]) rfl rfl rfl ?_
                  exact b_ri rfl rfl (K (5) (by decide) (gG_e (gG_c (r := μ.1 v2) (d := 7) (show μ.1 v2 7 = 0 from (e7).trans (by omega)) (fun z9 => by have z8 := (show μ.1 v2 6 = v10 from e11); have z7 : μ.1 v2 6 = 0 := z9; omega) (gN_s (show μ.1 v2 8 = 0 from (e15).trans (by omega)) (gN_s (show μ.1 v2 9 = 0 from (e19).trans (by omega)) (gN_s (show μ.1 v2 0 = 0 from (e23).trans (by omega)) (gN_s (show μ.1 v2 1 = 0 from (e27).trans (by omega)) (gN_e (fun z9 => by have z8 := (show μ.1 v2 2 = v30 from e31); have z7 : μ.1 v2 2 = 0 := z9; omega) rfl)))))) e3))
                · have b34 : 0 ≤ v30 ∧ v30 ≤ 0 := by omega
                  refine w_t (np := 45) (l2 := [some (eR a0), some (eI (7)), some (eI (6))]) (s2 := []) rfl (b_iinc rfl rfl rfl) rfl ?_
                  refine w_go (t1 := 28) rfl rfl ?_
                  refine w_t (np := 29) (l2 := [some (eR a0), some (eI (7)), some (eI (6))]) (s2 := [eR a0]) rfl (s_an rfl (pos_g hI gA0 (by decide))) rfl ?_
                  refine w_gf (np := 32) (v := eR v2) rfl rfl (hI.kd gA0 (by decide) (n := 69) rfl) (by rw [e3]; rfl) ?_
                  refine w_t (np := 33) (l2 := [some (eR a0), some (eI (7)), some (eI (6))]) (s2 := [eI (7), eR v2]) rfl rfl rfl ?_
                  refine w_t (np := 34) (l2 := [some (eR a0), some (eI (7)), some (eI (6))]) (s2 := [eI (6), eI (7), eR v2]) rfl rfl rfl ?_
                  refine w_t (np := 35) (l2 := [some (eR a0), some (eI (7)), some (eI (6))]) (s2 := [eI (13), eR v2]) rfl (b_iadd rfl) rfl ?_
                  refine w_cu (np := 38) (as := [eI (13)]) (l2 := [some (eI (13))]) (rest := [eR v2]) rfl rfl rfl (Nat.ble_eq.mp rfl) rfl rfl rfl rfl ?_
                  refine w_t (np := 1) (l2 := [some (eI (13))]) (s2 := [eI (13)]) rfl rfl rfl ?_
                  refine w_t (np := 3) (l2 := [some (eI (13))]) (s2 := [eI (10), eI (13)]) rfl rfl rfl ?_
                  refine w_t (np := 4) (l2 := [some (eI (13))]) (s2 := [eI (3)]) rfl rfl rfl ?_
                  refine w_t (np := 6) (l2 := [some (eI (13))]) (s2 := [eI (10), eI (3)]) rfl rfl rfl ?_
                  refine w_t (np := 7) (l2 := [some (eI (13))]) (s2 := [eI (13)]) rfl (b_iadd rfl) rfl ?_
                  refine w_t (np := 9) (l2 := [some (eI (13))]) (s2 := [eI (10), eI (13)]) rfl rfl rfl ?_
                  refine w_t (np := 10) (l2 := [some (eI (13))]) (s2 := [eI (3)]) rfl rfl rfl ?_
                  refine b_ri rfl rfl ?_
                  show ex_q (dt_fg L ρ) rc (d + 1, (327, 38, [some (eR a0), some (eI (7)), some (eI (6))], [eI (3), eR v2]), f :: F, μ)
                  refine j_b3 (np := 39) rfl rfl hI b4 (by decide) (n := 10) rfl rfl (lo := 0) (hi := 1) (fun _ => rfl) (by decide) (by decide) ?_
                  intro v34 e35 b36
                  refine b_ine (t1 := 48) (t2 := 42) rfl rfl rfl (ev_w_in (by omega) (by omega)) (fun g37 => ?_) (fun g37 => ?_)
                  · have b38 : 1 ≤ v34 ∧ v34 ≤ 1 := by omega
                    refine w_t (np := 49) (l2 := [some (eR a0), some (eI (7)), some (eI (6))]) (s2 := [eI (6)]) rfl rfl rfl ?_
                    exact b_ri rfl rfl (K (6) (by decide) (gG_e (gG_c (r := μ.1 v2) (d := 7) (show μ.1 v2 7 = 0 from (e7).trans (by omega)) (fun z9 => by have z8 := (show μ.1 v2 6 = v10 from e11); have z7 : μ.1 v2 6 = 0 := z9; omega) (gN_s (show μ.1 v2 8 = 0 from (e15).trans (by omega)) (gN_s (show μ.1 v2 9 = 0 from (e19).trans (by omega)) (gN_s (show μ.1 v2 0 = 0 from (e23).trans (by omega)) (gN_s (show μ.1 v2 1 = 0 from (e27).trans (by omega)) (gN_s (show μ.1 v2 2 = 0 from (e31).trans (by omega)) (gN_e (fun z9 => by have z8 := (show μ.1 v2 3 = v34 from e35); have z7 : μ.1 v2 3 = 0 := z9; omega) rfl))))))) e3))
                  · have b38 : 0 ≤ v34 ∧ v34 ≤ 0 := by omega
                    refine w_t (np := 45) (l2 := [some (eR a0), some (eI (7)), some (eI (7))]) (s2 := []) rfl (b_iinc rfl rfl rfl) rfl ?_
                    refine w_go (t1 := 28) rfl rfl ?_
                    refine w_t (np := 29) (l2 := [some (eR a0), some (eI (7)), some (eI (7))]) (s2 := [eR a0]) rfl (s_an rfl (pos_g hI gA0 (by decide))) rfl ?_
                    refine w_gf (np := 32) (v := eR v2) rfl rfl (hI.kd gA0 (by decide) (n := 69) rfl) (by rw [e3]; rfl) ?_
                    refine w_t (np := 33) (l2 := [some (eR a0), some (eI (7)), some (eI (7))]) (s2 := [eI (7), eR v2]) rfl rfl rfl ?_
                    refine w_t (np := 34) (l2 := [some (eR a0), some (eI (7)), some (eI (7))]) (s2 := [eI (7), eI (7), eR v2]) rfl rfl rfl ?_
                    refine w_t (np := 35) (l2 := [some (eR a0), some (eI (7)), some (eI (7))]) (s2 := [eI (14), eR v2]) rfl (b_iadd rfl) rfl ?_
                    refine w_cu (np := 38) (as := [eI (14)]) (l2 := [some (eI (14))]) (rest := [eR v2]) rfl rfl rfl (Nat.ble_eq.mp rfl) rfl rfl rfl rfl ?_
                    refine w_t (np := 1) (l2 := [some (eI (14))]) (s2 := [eI (14)]) rfl rfl rfl ?_
                    refine w_t (np := 3) (l2 := [some (eI (14))]) (s2 := [eI (10), eI (14)]) rfl rfl rfl ?_
                    refine w_t (np := 4) (l2 := [some (eI (14))]) (s2 := [eI (4)]) rfl rfl rfl ?_
                    refine w_t (np := 6) (l2 := [some (eI (14))]) (s2 := [eI (10), eI (4)]) rfl rfl rfl ?_
                    refine w_t (np := 7) (l2 := [some (eI (14))]) (s2 := [eI (14)]) rfl (b_iadd rfl) rfl ?_
                    refine w_t (np := 9) (l2 := [some (eI (14))]) (s2 := [eI (10), eI (14)]) rfl rfl rfl ?_
                    refine w_t (np := 10) (l2 := [some (eI (14))]) (s2 := [eI (4)]) rfl rfl rfl ?_
                    refine b_ri rfl rfl ?_
                    show ex_q (dt_fg L ρ) rc (d + 1, (327, 38, [some (eR a0), some (eI (7)), some (eI (7))], [eI (4), eR v2]), f :: F, μ)
                    refine j_b3 (np := 39) rfl rfl hI b4 (by decide) (n := 10) rfl rfl (lo := 0) (hi := 1) (fun _ => rfl) (by decide) (by decide) ?_
                    intro v38 e39 b40
                    refine b_ine (t1 := 48) (t2 := 42) rfl rfl rfl (ev_w_in (by omega) (by omega)) (fun g41 => ?_) (fun g41 => ?_)
                    · have b42 : 1 ≤ v38 ∧ v38 ≤ 1 := by omega
                      refine w_t (np := 49) (l2 := [some (eR a0), some (eI (7)), some (eI (7))]) (s2 := [eI (7)]) rfl rfl rfl ?_
                      exact b_ri rfl rfl (K (7) (by decide) (gG_e (gG_c (r := μ.1 v2) (d := 7) (show μ.1 v2 7 = 0 from (e7).trans (by omega)) (fun z9 => by have z8 := (show μ.1 v2 6 = v10 from e11); have z7 : μ.1 v2 6 = 0 := z9; omega) (gN_s (show μ.1 v2 8 = 0 from (e15).trans (by omega)) (gN_s (show μ.1 v2 9 = 0 from (e19).trans (by omega)) (gN_s (show μ.1 v2 0 = 0 from (e23).trans (by omega)) (gN_s (show μ.1 v2 1 = 0 from (e27).trans (by omega)) (gN_s (show μ.1 v2 2 = 0 from (e31).trans (by omega)) (gN_s (show μ.1 v2 3 = 0 from (e35).trans (by omega)) (gN_e (fun z9 => by have z8 := (show μ.1 v2 4 = v38 from e39); have z7 : μ.1 v2 4 = 0 := z9; omega) rfl)))))))) e3))
                    · have b42 : 0 ≤ v38 ∧ v38 ≤ 0 := by omega
                      refine w_t (np := 45) (l2 := [some (eR a0), some (eI (7)), some (eI (8))]) (s2 := []) rfl (b_iinc rfl rfl rfl) rfl ?_
                      refine w_go (t1 := 28) rfl rfl ?_
                      refine w_t (np := 29) (l2 := [some (eR a0), some (eI (7)), some (eI (8))]) (s2 := [eR a0]) rfl (s_an rfl (pos_g hI gA0 (by decide))) rfl ?_
                      refine w_gf (np := 32) (v := eR v2) rfl rfl (hI.kd gA0 (by decide) (n := 69) rfl) (by rw [e3]; rfl) ?_
                      refine w_t (np := 33) (l2 := [some (eR a0), some (eI (7)), some (eI (8))]) (s2 := [eI (7), eR v2]) rfl rfl rfl ?_
                      refine w_t (np := 34) (l2 := [some (eR a0), some (eI (7)), some (eI (8))]) (s2 := [eI (8), eI (7), eR v2]) rfl rfl rfl ?_
                      refine w_t (np := 35) (l2 := [some (eR a0), some (eI (7)), some (eI (8))]) (s2 := [eI (15), eR v2]) rfl (b_iadd rfl) rfl ?_
                      refine w_cu (np := 38) (as := [eI (15)]) (l2 := [some (eI (15))]) (rest := [eR v2]) rfl rfl rfl (Nat.ble_eq.mp rfl) rfl rfl rfl rfl ?_
                      refine w_t (np := 1) (l2 := [some (eI (15))]) (s2 := [eI (15)]) rfl rfl rfl ?_
                      refine w_t (np := 3) (l2 := [some (eI (15))]) (s2 := [eI (10), eI (15)]) rfl rfl rfl ?_
                      refine w_t (np := 4) (l2 := [some (eI (15))]) (s2 := [eI (5)]) rfl rfl rfl ?_
                      refine w_t (np := 6) (l2 := [some (eI (15))]) (s2 := [eI (10), eI (5)]) rfl rfl rfl ?_
                      refine w_t (np := 7) (l2 := [some (eI (15))]) (s2 := [eI (15)]) rfl (b_iadd rfl) rfl ?_
                      refine w_t (np := 9) (l2 := [some (eI (15))]) (s2 := [eI (10), eI (15)]) rfl rfl rfl ?_
                      refine w_t (np := 10) (l2 := [some (eI (15))]) (s2 := [eI (5)]) rfl rfl rfl ?_
                      refine b_ri rfl rfl ?_
                      show ex_q (dt_fg L ρ) rc (d + 1, (327, 38, [some (eR a0), some (eI (7)), some (eI (8))], [eI (5), eR v2]), f :: F, μ)
                      refine j_b3 (np := 39) rfl rfl hI b4 (by decide) (n := 10) rfl rfl (lo := 0) (hi := 1) (fun _ => rfl) (by decide) (by decide) ?_
                      intro v42 e43 b44
                      refine b_ine (t1 := 48) (t2 := 42) rfl rfl rfl (ev_w_in (by omega) (by omega)) (fun g45 => ?_) (fun g45 => ?_)
                      · have b46 : 1 ≤ v42 ∧ v42 ≤ 1 := by omega
                        refine w_t (np := 49) (l2 := [some (eR a0), some (eI (7)), some (eI (8))]) (s2 := [eI (8)]) rfl rfl rfl ?_
                        exact b_ri rfl rfl (K (8) (by decide) (gG_e (gG_c (r := μ.1 v2) (d := 7) (show μ.1 v2 7 = 0 from (e7).trans (by omega)) (fun z9 => by have z8 := (show μ.1 v2 6 = v10 from e11); have z7 : μ.1 v2 6 = 0 := z9; omega) (gN_s (show μ.1 v2 8 = 0 from (e15).trans (by omega)) (gN_s (show μ.1 v2 9 = 0 from (e19).trans (by omega)) (gN_s (show μ.1 v2 0 = 0 from (e23).trans (by omega)) (gN_s (show μ.1 v2 1 = 0 from (e27).trans (by omega)) (gN_s (show μ.1 v2 2 = 0 from (e31).trans (by omega)) (gN_s (show μ.1 v2 3 = 0 from (e35).trans (by omega)) (gN_s (show μ.1 v2 4 = 0 from (e39).trans (by omega)) (gN_e (fun z9 => by have z8 := (show μ.1 v2 5 = v42 from e43); have z7 : μ.1 v2 5 = 0 := z9; omega) rfl))))))))) e3))
                      · have b46 : 0 ≤ v42 ∧ v42 ≤ 0 := by omega
                        refine w_t (np := 45) (l2 := [some (eR a0), some (eI (7)), some (eI (9))]) (s2 := []) rfl (b_iinc rfl rfl rfl) rfl ?_
                        refine w_go (t1 := 28) rfl rfl ?_
                        refine w_t (np := 29) (l2 := [some (eR a0), some (eI (7)), some (eI (9))]) (s2 := [eR a0]) rfl (s_an rfl (pos_g hI gA0 (by decide))) rfl ?_
                        refine w_gf (np := 32) (v := eR v2) rfl rfl (hI.kd gA0 (by decide) (n := 69) rfl) (by rw [e3]; rfl) ?_
                        refine w_t (np := 33) (l2 := [some (eR a0), some (eI (7)), some (eI (9))]) (s2 := [eI (7), eR v2]) rfl rfl rfl ?_
                        refine w_t (np := 34) (l2 := [some (eR a0), some (eI (7)), some (eI (9))]) (s2 := [eI (9), eI (7), eR v2]) rfl rfl rfl ?_
                        refine w_t (np := 35) (l2 := [some (eR a0), some (eI (7)), some (eI (9))]) (s2 := [eI (16), eR v2]) rfl (b_iadd rfl) rfl ?_
                        refine w_cu (np := 38) (as := [eI (16)]) (l2 := [some (eI (16))]) (rest := [eR v2]) rfl rfl rfl (Nat.ble_eq.mp rfl) rfl rfl rfl rfl ?_
                        refine w_t (np := 1) (l2 := [some (eI (16))]) (s2 := [eI (16)]) rfl rfl rfl ?_
                        refine w_t (np := 3) (l2 := [some (eI (16))]) (s2 := [eI (10), eI (16)]) rfl rfl rfl ?_
                        refine w_t (np := 4) (l2 := [some (eI (16))]) (s2 := [eI (6)]) rfl rfl rfl ?_
                        refine w_t (np := 6) (l2 := [some (eI (16))]) (s2 := [eI (10), eI (6)]) rfl rfl rfl ?_
                        refine w_t (np := 7) (l2 := [some (eI (16))]) (s2 := [eI (16)]) rfl (b_iadd rfl) rfl ?_
                        refine w_t (np := 9) (l2 := [some (eI (16))]) (s2 := [eI (10), eI (16)]) rfl rfl rfl ?_
                        refine w_t (np := 10) (l2 := [some (eI (16))]) (s2 := [eI (6)]) rfl rfl rfl ?_
                        refine b_ri rfl rfl ?_
                        show ex_q (dt_fg L ρ) rc (d + 1, (327, 38, [some (eR a0), some (eI (7)), some (eI (9))], [eI (6), eR v2]), f :: F, μ)
                        refine j_b3 (np := 39) rfl rfl hI b4 (by decide) (n := 10) rfl rfl (lo := 0) (hi := 1) (fun _ => rfl) (by decide) (by decide) ?_
                        intro v46 e47 b48
                        have e47 := e47.symm.trans e11
                        rw [e47]
                        refine b_ine (t1 := 48) (t2 := 42) rfl rfl rfl (ev_w_in (by omega) (by omega)) (fun g49 => ?_) (fun g49 => False.elim (by omega))
                        refine w_t (np := 49) (l2 := [some (eR a0), some (eI (7)), some (eI (9))]) (s2 := [eI (9)]) rfl rfl rfl ?_
                        exact b_ri rfl rfl (K (9) (by decide) (gG_e (gG_c (r := μ.1 v2) (d := 7) (show μ.1 v2 7 = 0 from (e7).trans (by omega)) (fun z9 => by have z8 := (show μ.1 v2 6 = v10 from e11); have z7 : μ.1 v2 6 = 0 := z9; omega) (gN_s (show μ.1 v2 8 = 0 from (e15).trans (by omega)) (gN_s (show μ.1 v2 9 = 0 from (e19).trans (by omega)) (gN_s (show μ.1 v2 0 = 0 from (e23).trans (by omega)) (gN_s (show μ.1 v2 1 = 0 from (e27).trans (by omega)) (gN_s (show μ.1 v2 2 = 0 from (e31).trans (by omega)) (gN_s (show μ.1 v2 3 = 0 from (e35).trans (by omega)) (gN_s (show μ.1 v2 4 = 0 from (e39).trans (by omega)) (gN_s (show μ.1 v2 5 = 0 from (e43).trans (by omega)) rfl))))))))) e3))
      · have b14 : 0 ≤ v10 ∧ v10 ≤ 0 := by omega
        refine w_t (np := 25) (l2 := [some (eR a0), some (eI (7)), none]) (s2 := [eI (0)]) rfl rfl rfl ?_
        exact b_ri rfl rfl (K (0) (by decide) (gG_e (gG_b (r := μ.1 v2) (d := 7) (show μ.1 v2 7 = 0 from (e7).trans (by omega)) (show μ.1 v2 6 = 0 from (e11).trans (by omega))) e3))
  · subst g1
    refine w_t (np := 1) (l2 := [some (eR a0), some (eI (8)), none]) (s2 := [eR a0]) rfl (s_an rfl (pos_g hI gA0 (by decide))) rfl ?_
    refine j_gr (np := 4) rfl rfl hI gA0 (by decide) (n := 69) rfl rfl rfl ?_
    intro v2 e3 b4 z5
    have b4 : g v2 = 85 := Nat.eq_of_beq_eq_true b4
    refine w_t (np := 5) (l2 := [some (eR a0), some (eI (8)), none]) (s2 := [eI (8), eR v2]) rfl rfl rfl ?_
    refine j_b3 (np := 6) rfl rfl hI b4 (by decide) (n := 10) rfl rfl (lo := 0) (hi := 1) (fun _ => rfl) (by decide) (by decide) ?_
    intro v6 e7 b8
    refine b_ine (t1 := 24) (t2 := 9) rfl rfl rfl (ev_w_in (by omega) (by omega)) (fun g9 => ?_) (fun g9 => ?_)
    · have b10 : 1 ≤ v6 ∧ v6 ≤ 1 := by omega
      refine w_t (np := 25) (l2 := [some (eR a0), some (eI (8)), none]) (s2 := [eI (0)]) rfl rfl rfl ?_
      exact b_ri rfl rfl (K (0) (by decide) (gG_e (gG_a (r := μ.1 v2) (d := 8) (fun z9 => by have z8 := (show μ.1 v2 8 = v6 from e7); have z7 : μ.1 v2 8 = 0 := z9; omega)) e3))
    · have b10 : 0 ≤ v6 ∧ v6 ≤ 0 := by omega
      refine w_t (np := 10) (l2 := [some (eR a0), some (eI (8)), none]) (s2 := [eR a0]) rfl (s_an rfl (pos_g hI gA0 (by decide))) rfl ?_
      refine w_gf (np := 13) (v := eR v2) rfl rfl (hI.kd gA0 (by decide) (n := 69) rfl) (by rw [e3]; rfl) ?_
      refine w_t (np := 14) (l2 := [some (eR a0), some (eI (8)), none]) (s2 := [eI (8), eR v2]) rfl rfl rfl ?_
      refine w_t (np := 16) (l2 := [some (eR a0), some (eI (8)), none]) (s2 := [eI (9), eI (8), eR v2]) rfl rfl rfl ?_
      refine w_t (np := 17) (l2 := [some (eR a0), some (eI (8)), none]) (s2 := [eI (17), eR v2]) rfl (b_iadd rfl) rfl ?_
      refine w_cu (np := 20) (as := [eI (17)]) (l2 := [some (eI (17))]) (rest := [eR v2]) rfl rfl rfl (Nat.ble_eq.mp rfl) rfl rfl rfl rfl ?_
      refine w_t (np := 1) (l2 := [some (eI (17))]) (s2 := [eI (17)]) rfl rfl rfl ?_
      refine w_t (np := 3) (l2 := [some (eI (17))]) (s2 := [eI (10), eI (17)]) rfl rfl rfl ?_
      refine w_t (np := 4) (l2 := [some (eI (17))]) (s2 := [eI (7)]) rfl rfl rfl ?_
      refine w_t (np := 6) (l2 := [some (eI (17))]) (s2 := [eI (10), eI (7)]) rfl rfl rfl ?_
      refine w_t (np := 7) (l2 := [some (eI (17))]) (s2 := [eI (17)]) rfl (b_iadd rfl) rfl ?_
      refine w_t (np := 9) (l2 := [some (eI (17))]) (s2 := [eI (10), eI (17)]) rfl rfl rfl ?_
      refine w_t (np := 10) (l2 := [some (eI (17))]) (s2 := [eI (7)]) rfl rfl rfl ?_
      refine b_ri rfl rfl ?_
      show ex_q (dt_fg L ρ) rc (d + 1, (327, 20, [some (eR a0), some (eI (8)), none], [eI (7), eR v2]), f :: F, μ)
      refine j_b3 (np := 21) rfl rfl hI b4 (by decide) (n := 10) rfl rfl (lo := 0) (hi := 1) (fun _ => rfl) (by decide) (by decide) ?_
      intro v10 e11 b12
      refine b_ine (t1 := 26) (t2 := 24) rfl rfl rfl (ev_w_in (by omega) (by omega)) (fun g13 => ?_) (fun g13 => ?_)
      · have b14 : 1 ≤ v10 ∧ v10 ≤ 1 := by omega
        refine w_t (np := 27) (l2 := [some (eR a0), some (eI (8)), none]) (s2 := [eI (1)]) rfl rfl rfl ?_
        refine w_t (np := 28) (l2 := [some (eR a0), some (eI (8)), some (eI (1))]) (s2 := []) rfl rfl rfl ?_
        refine w_t (np := 29) (l2 := [some (eR a0), some (eI (8)), some (eI (1))]) (s2 := [eR a0]) rfl (s_an rfl (pos_g hI gA0 (by decide))) rfl ?_
        refine w_gf (np := 32) (v := eR v2) rfl rfl (hI.kd gA0 (by decide) (n := 69) rfl) (by rw [e3]; rfl) ?_
        refine w_t (np := 33) (l2 := [some (eR a0), some (eI (8)), some (eI (1))]) (s2 := [eI (8), eR v2]) rfl rfl rfl ?_
        refine w_t (np := 34) (l2 := [some (eR a0), some (eI (8)), some (eI (1))]) (s2 := [eI (1), eI (8), eR v2]) rfl rfl rfl ?_
        refine w_t (np := 35) (l2 := [some (eR a0), some (eI (8)), some (eI (1))]) (s2 := [eI (9), eR v2]) rfl (b_iadd rfl) rfl ?_
        refine w_cu (np := 38) (as := [eI (9)]) (l2 := [some (eI (9))]) (rest := [eR v2]) rfl rfl rfl (Nat.ble_eq.mp rfl) rfl rfl rfl rfl ?_
        refine w_t (np := 1) (l2 := [some (eI (9))]) (s2 := [eI (9)]) rfl rfl rfl ?_
        refine w_t (np := 3) (l2 := [some (eI (9))]) (s2 := [eI (10), eI (9)]) rfl rfl rfl ?_
        refine w_t (np := 4) (l2 := [some (eI (9))]) (s2 := [eI (9)]) rfl rfl rfl ?_
        refine w_t (np := 6) (l2 := [some (eI (9))]) (s2 := [eI (10), eI (9)]) rfl rfl rfl ?_
        refine w_t (np := 7) (l2 := [some (eI (9))]) (s2 := [eI (19)]) rfl (b_iadd rfl) rfl ?_
        refine w_t (np := 9) (l2 := [some (eI (9))]) (s2 := [eI (10), eI (19)]) rfl rfl rfl ?_
        refine w_t (np := 10) (l2 := [some (eI (9))]) (s2 := [eI (9)]) rfl rfl rfl ?_
        refine b_ri rfl rfl ?_
        show ex_q (dt_fg L ρ) rc (d + 1, (327, 38, [some (eR a0), some (eI (8)), some (eI (1))], [eI (9), eR v2]), f :: F, μ)
        refine j_b3 (np := 39) rfl rfl hI b4 (by decide) (n := 10) rfl rfl (lo := 0) (hi := 1) (fun _ => rfl) (by decide) (by decide) ?_
        intro v14 e15 b16
        refine b_ine (t1 := 48) (t2 := 42) rfl rfl rfl (ev_w_in (by omega) (by omega)) (fun g17 => ?_) (fun g17 => ?_)
        · have b18 : 1 ≤ v14 ∧ v14 ≤ 1 := by omega
          refine w_t (np := 49) (l2 := [some (eR a0), some (eI (8)), some (eI (1))]) (s2 := [eI (1)]) rfl rfl rfl ?_
          exact b_ri rfl rfl (K (1) (by decide) (gG_e (gG_c (r := μ.1 v2) (d := 8) (show μ.1 v2 8 = 0 from (e7).trans (by omega)) (fun z9 => by have z8 := (show μ.1 v2 7 = v10 from e11); have z7 : μ.1 v2 7 = 0 := z9; omega) (gN_e (fun z9 => by have z8 := (show μ.1 v2 9 = v14 from e15); have z7 : μ.1 v2 9 = 0 := z9; omega) rfl)) e3))
        · have b18 : 0 ≤ v14 ∧ v14 ≤ 0 := by omega
          refine w_t (np := 45) (l2 := [some (eR a0), some (eI (8)), some (eI (2))]) (s2 := []) rfl (b_iinc rfl rfl rfl) rfl ?_
          refine w_go (t1 := 28) rfl rfl ?_
          refine w_t (np := 29) (l2 := [some (eR a0), some (eI (8)), some (eI (2))]) (s2 := [eR a0]) rfl (s_an rfl (pos_g hI gA0 (by decide))) rfl ?_
          refine w_gf (np := 32) (v := eR v2) rfl rfl (hI.kd gA0 (by decide) (n := 69) rfl) (by rw [e3]; rfl) ?_
          refine w_t (np := 33) (l2 := [some (eR a0), some (eI (8)), some (eI (2))]) (s2 := [eI (8), eR v2]) rfl rfl rfl ?_
          refine w_t (np := 34) (l2 := [some (eR a0), some (eI (8)), some (eI (2))]) (s2 := [eI (2), eI (8), eR v2]) rfl rfl rfl ?_
          refine w_t (np := 35) (l2 := [some (eR a0), some (eI (8)), some (eI (2))]) (s2 := [eI (10), eR v2]) rfl (b_iadd rfl) rfl ?_
          refine w_cu (np := 38) (as := [eI (10)]) (l2 := [some (eI (10))]) (rest := [eR v2]) rfl rfl rfl (Nat.ble_eq.mp rfl) rfl rfl rfl rfl ?_
          refine w_t (np := 1) (l2 := [some (eI (10))]) (s2 := [eI (10)]) rfl rfl rfl ?_
          refine w_t (np := 3) (l2 := [some (eI (10))]) (s2 := [eI (10), eI (10)]) rfl rfl rfl ?_
          refine w_t (np := 4) (l2 := [some (eI (10))]) (s2 := [eI (0)]) rfl rfl rfl ?_
          refine w_t (np := 6) (l2 := [some (eI (10))]) (s2 := [eI (10), eI (0)]) rfl rfl rfl ?_
          refine w_t (np := 7) (l2 := [some (eI (10))]) (s2 := [eI (10)]) rfl (b_iadd rfl) rfl ?_
          refine w_t (np := 9) (l2 := [some (eI (10))]) (s2 := [eI (10), eI (10)]) rfl rfl rfl ?_
          refine w_t (np := 10) (l2 := [some (eI (10))]) (s2 := [eI (0)]) rfl rfl rfl ?_
          refine b_ri rfl rfl ?_
          show ex_q (dt_fg L ρ) rc (d + 1, (327, 38, [some (eR a0), some (eI (8)), some (eI (2))], [eI (0), eR v2]), f :: F, μ)
          refine j_b3 (np := 39) rfl rfl hI b4 (by decide) (n := 10) rfl rfl (lo := 0) (hi := 1) (fun _ => rfl) (by decide) (by decide) ?_
          intro v18 e19 b20
          refine b_ine (t1 := 48) (t2 := 42) rfl rfl rfl (ev_w_in (by omega) (by omega)) (fun g21 => ?_) (fun g21 => ?_)
          · have b22 : 1 ≤ v18 ∧ v18 ≤ 1 := by omega
            refine w_t (np := 49) (l2 := [some (eR a0), some (eI (8)), some (eI (2))]) (s2 := [eI (2)]) rfl rfl rfl ?_
            exact b_ri rfl rfl (K (2) (by decide) (gG_e (gG_c (r := μ.1 v2) (d := 8) (show μ.1 v2 8 = 0 from (e7).trans (by omega)) (fun z9 => by have z8 := (show μ.1 v2 7 = v10 from e11); have z7 : μ.1 v2 7 = 0 := z9; omega) (gN_s (show μ.1 v2 9 = 0 from (e15).trans (by omega)) (gN_e (fun z9 => by have z8 := (show μ.1 v2 0 = v18 from e19); have z7 : μ.1 v2 0 = 0 := z9; omega) rfl))) e3))
          · have b22 : 0 ≤ v18 ∧ v18 ≤ 0 := by omega
            refine w_t (np := 45) (l2 := [some (eR a0), some (eI (8)), some (eI (3))]) (s2 := []) rfl (b_iinc rfl rfl rfl) rfl ?_
            refine w_go (t1 := 28) rfl rfl ?_
            refine w_t (np := 29) (l2 := [some (eR a0), some (eI (8)), some (eI (3))]) (s2 := [eR a0]) rfl (s_an rfl (pos_g hI gA0 (by decide))) rfl ?_
            refine w_gf (np := 32) (v := eR v2) rfl rfl (hI.kd gA0 (by decide) (n := 69) rfl) (by rw [e3]; rfl) ?_
            refine w_t (np := 33) (l2 := [some (eR a0), some (eI (8)), some (eI (3))]) (s2 := [eI (8), eR v2]) rfl rfl rfl ?_
            refine w_t (np := 34) (l2 := [some (eR a0), some (eI (8)), some (eI (3))]) (s2 := [eI (3), eI (8), eR v2]) rfl rfl rfl ?_
            refine w_t (np := 35) (l2 := [some (eR a0), some (eI (8)), some (eI (3))]) (s2 := [eI (11), eR v2]) rfl (b_iadd rfl) rfl ?_
            refine w_cu (np := 38) (as := [eI (11)]) (l2 := [some (eI (11))]) (rest := [eR v2]) rfl rfl rfl (Nat.ble_eq.mp rfl) rfl rfl rfl rfl ?_
            refine w_t (np := 1) (l2 := [some (eI (11))]) (s2 := [eI (11)]) rfl rfl rfl ?_
            refine w_t (np := 3) (l2 := [some (eI (11))]) (s2 := [eI (10), eI (11)]) rfl rfl rfl ?_
            refine w_t (np := 4) (l2 := [some (eI (11))]) (s2 := [eI (1)]) rfl rfl rfl ?_
            refine w_t (np := 6) (l2 := [some (eI (11))]) (s2 := [eI (10), eI (1)]) rfl rfl rfl ?_
            refine w_t (np := 7) (l2 := [some (eI (11))]) (s2 := [eI (11)]) rfl (b_iadd rfl) rfl ?_
            refine w_t (np := 9) (l2 := [some (eI (11))]) (s2 := [eI (10), eI (11)]) rfl rfl rfl ?_
            refine w_t (np := 10) (l2 := [some (eI (11))]) (s2 := [eI (1)]) rfl rfl rfl ?_
            refine b_ri rfl rfl ?_
            show ex_q (dt_fg L ρ) rc (d + 1, (327, 38, [some (eR a0), some (eI (8)), some (eI (3))], [eI (1), eR v2]), f :: F, μ)
            refine j_b3 (np := 39) rfl rfl hI b4 (by decide) (n := 10) rfl rfl (lo := 0) (hi := 1) (fun _ => rfl) (by decide) (by decide) ?_
            intro v22 e23 b24
            refine b_ine (t1 := 48) (t2 := 42) rfl rfl rfl (ev_w_in (by omega) (by omega)) (fun g25 => ?_) (fun g25 => ?_)
            · have b26 : 1 ≤ v22 ∧ v22 ≤ 1 := by omega
              refine w_t (np := 49) (l2 := [some (eR a0), some (eI (8)), some (eI (3))]) (s2 := [eI (3)]) rfl rfl rfl ?_
              exact b_ri rfl rfl (K (3) (by decide) (gG_e (gG_c (r := μ.1 v2) (d := 8) (show μ.1 v2 8 = 0 from (e7).trans (by omega)) (fun z9 => by have z8 := (show μ.1 v2 7 = v10 from e11); have z7 : μ.1 v2 7 = 0 := z9; omega) (gN_s (show μ.1 v2 9 = 0 from (e15).trans (by omega)) (gN_s (show μ.1 v2 0 = 0 from (e19).trans (by omega)) (gN_e (fun z9 => by have z8 := (show μ.1 v2 1 = v22 from e23); have z7 : μ.1 v2 1 = 0 := z9; omega) rfl)))) e3))
            · have b26 : 0 ≤ v22 ∧ v22 ≤ 0 := by omega
              refine w_t (np := 45) (l2 := [some (eR a0), some (eI (8)), some (eI (4))]) (s2 := []) rfl (b_iinc rfl rfl rfl) rfl ?_
              refine w_go (t1 := 28) rfl rfl ?_
              refine w_t (np := 29) (l2 := [some (eR a0), some (eI (8)), some (eI (4))]) (s2 := [eR a0]) rfl (s_an rfl (pos_g hI gA0 (by decide))) rfl ?_
              refine w_gf (np := 32) (v := eR v2) rfl rfl (hI.kd gA0 (by decide) (n := 69) rfl) (by rw [e3]; rfl) ?_
              refine w_t (np := 33) (l2 := [some (eR a0), some (eI (8)), some (eI (4))]) (s2 := [eI (8), eR v2]) rfl rfl rfl ?_
              refine w_t (np := 34) (l2 := [some (eR a0), some (eI (8)), some (eI (4))]) (s2 := [eI (4), eI (8), eR v2]) rfl rfl rfl ?_
              refine w_t (np := 35) (l2 := [some (eR a0), some (eI (8)), some (eI (4))]) (s2 := [eI (12), eR v2]) rfl (b_iadd rfl) rfl ?_
              refine w_cu (np := 38) (as := [eI (12)]) (l2 := [some (eI (12))]) (rest := [eR v2]) rfl rfl rfl (Nat.ble_eq.mp rfl) rfl rfl rfl rfl ?_
              refine w_t (np := 1) (l2 := [some (eI (12))]) (s2 := [eI (12)]) rfl rfl rfl ?_
              refine w_t (np := 3) (l2 := [some (eI (12))]) (s2 := [eI (10), eI (12)]) rfl rfl rfl ?_
              refine w_t (np := 4) (l2 := [some (eI (12))]) (s2 := [eI (2)]) rfl rfl rfl ?_
              refine w_t (np := 6) (l2 := [some (eI (12))]) (s2 := [eI (10), eI (2)]) rfl rfl rfl ?_
              refine w_t (np := 7) (l2 := [some (eI (12))]) (s2 := [eI (12)]) rfl (b_iadd rfl) rfl ?_
              refine w_t (np := 9) (l2 := [some (eI (12))]) (s2 := [eI (10), eI (12)]) rfl rfl rfl ?_
              refine w_t (np := 10) (l2 := [some (eI (12))]) (s2 := [eI (2)]) rfl rfl rfl ?_
              refine b_ri rfl rfl ?_
              show ex_q (dt_fg L ρ) rc (d + 1, (327, 38, [some (eR a0), some (eI (8)), some (eI (4))], [eI (2), eR v2]), f :: F, μ)
              refine j_b3 (np := 39) rfl rfl hI b4 (by decide) (n := 10) rfl rfl (lo := 0) (hi := 1) (fun _ => rfl) (by decide) (by decide) ?_
              intro v26 e27 b28
              refine b_ine (t1 := 48) (t2 := 42) rfl rfl rfl (ev_w_in (by omega) (by omega)) (fun g29 => ?_) (fun g29 => ?_)
              · have b30 : 1 ≤ v26 ∧ v26 ≤ 1 := by omega
                refine w_t (np := 49) (l2 := [some (eR a0), some (eI (8)), some (eI (4))]) (s2 := [eI (4)]) rfl rfl rfl ?_
                exact b_ri rfl rfl (K (4) (by decide) (gG_e (gG_c (r := μ.1 v2) (d := 8) (show μ.1 v2 8 = 0 from (e7).trans (by omega)) (fun z9 => by have z8 := (show μ.1 v2 7 = v10 from e11); have z7 : μ.1 v2 7 = 0 := z9; omega) (gN_s (show μ.1 v2 9 = 0 from (e15).trans (by omega)) (gN_s (show μ.1 v2 0 = 0 from (e19).trans (by omega)) (gN_s (show μ.1 v2 1 = 0 from (e23).trans (by omega)) (gN_e (fun z9 => by have z8 := (show μ.1 v2 2 = v26 from e27); have z7 : μ.1 v2 2 = 0 := z9; omega) rfl))))) e3))
              · have b30 : 0 ≤ v26 ∧ v26 ≤ 0 := by omega
                refine w_t (np := 45) (l2 := [some (eR a0), some (eI (8)), some (eI (5))]) (s2 := []) rfl (b_iinc rfl rfl rfl) rfl ?_
                refine w_go (t1 := 28) rfl rfl ?_
                refine w_t (np := 29) (l2 := [some (eR a0), some (eI (8)), some (eI (5))]) (s2 := [eR a0]) rfl (s_an rfl (pos_g hI gA0 (by decide))) rfl ?_
                refine w_gf (np := 32) (v := eR v2) rfl rfl (hI.kd gA0 (by decide) (n := 69) rfl) (by rw [e3]; rfl) ?_
                refine w_t (np := 33) (l2 := [some (eR a0), some (eI (8)), some (eI (5))]) (s2 := [eI (8), eR v2]) rfl rfl rfl ?_
                refine w_t (np := 34) (l2 := [some (eR a0), some (eI (8)), some (eI (5))]) (s2 := [eI (5), eI (8), eR v2]) rfl rfl rfl ?_
                refine w_t (np := 35) (l2 := [some (eR a0), some (eI (8)), some (eI (5))]) (s2 := [eI (13), eR v2]) rfl (b_iadd rfl) rfl ?_
                refine w_cu (np := 38) (as := [eI (13)]) (l2 := [some (eI (13))]) (rest := [eR v2]) rfl rfl rfl (Nat.ble_eq.mp rfl) rfl rfl rfl rfl ?_
                refine w_t (np := 1) (l2 := [some (eI (13))]) (s2 := [eI (13)]) rfl rfl rfl ?_
                refine w_t (np := 3) (l2 := [some (eI (13))]) (s2 := [eI (10), eI (13)]) rfl rfl rfl ?_
                refine w_t (np := 4) (l2 := [some (eI (13))]) (s2 := [eI (3)]) rfl rfl rfl ?_
                refine w_t (np := 6) (l2 := [some (eI (13))]) (s2 := [eI (10), eI (3)]) rfl rfl rfl ?_
                refine w_t (np := 7) (l2 := [some (eI (13))]) (s2 := [eI (13)]) rfl (b_iadd rfl) rfl ?_
                refine w_t (np := 9) (l2 := [some (eI (13))]) (s2 := [eI (10), eI (13)]) rfl rfl rfl ?_
                refine w_t (np := 10) (l2 := [some (eI (13))]) (s2 := [eI (3)]) rfl rfl rfl ?_
                refine b_ri rfl rfl ?_
                show ex_q (dt_fg L ρ) rc (d + 1, (327, 38, [some (eR a0), some (eI (8)), some (eI (5))], [eI (3), eR v2]), f :: F, μ)
                refine j_b3 (np := 39) rfl rfl hI b4 (by decide) (n := 10) rfl rfl (lo := 0) (hi := 1) (fun _ => rfl) (by decide) (by decide) ?_
                intro v30 e31 b32
                refine b_ine (t1 := 48) (t2 := 42) rfl rfl rfl (ev_w_in (by omega) (by omega)) (fun g33 => ?_) (fun g33 => ?_)
                · have b34 : 1 ≤ v30 ∧ v30 ≤ 1 := by omega
                  refine w_t (np := 49) (l2 := [some (eR a0), some (eI (8)), some (eI (5))]) (s2 := [eI (5)]) rfl rfl rfl ?_
                  exact b_ri rfl rfl (K (5) (by decide) (gG_e (gG_c (r := μ.1 v2) (d := 8) (show μ.1 v2 8 = 0 from (e7).trans (by omega)) (fun z9 => by have z8 := (show μ.1 v2 7 = v10 from e11); have z7 : μ.1 v2 7 = 0 := z9; omega) (gN_s (show μ.1 v2 9 = 0 from (e15).trans (by omega)) (gN_s (show μ.1 v2 0 = 0 from (e19).trans (by omega)) (gN_s (show μ.1 v2 1 = 0 from (e23).trans (by omega)) (gN_s (show μ.1 v2 2 = 0 from (e27).trans (by omega)) (gN_e (fun z9 => by have z8 := (show μ.1 v2 3 = v30 from e31); have z7 : μ.1 v2 3 = 0 := z9; omega) rfl)))))) e3))
                · have b34 : 0 ≤ v30 ∧ v30 ≤ 0 := by omega
                  refine w_t (np := 45) (l2 := [some (eR a0), some (eI (8)), some (eI (6))]) (s2 := []) rfl (b_iinc rfl rfl rfl) rfl ?_
                  refine w_go (t1 := 28) rfl rfl ?_
                  refine w_t (np := 29) (l2 := [some (eR a0), some (eI (8)), some (eI (6))]) (s2 := [eR a0]) rfl (s_an rfl (pos_g hI gA0 (by decide))) rfl ?_
                  refine w_gf (np := 32) (v := eR v2) rfl rfl (hI.kd gA0 (by decide) (n := 69) rfl) (by rw [e3]; rfl) ?_
                  refine w_t (np := 33) (l2 := [some (eR a0), some (eI (8)), some (eI (6))]) (s2 := [eI (8), eR v2]) rfl rfl rfl ?_
                  refine w_t (np := 34) (l2 := [some (eR a0), some (eI (8)), some (eI (6))]) (s2 := [eI (6), eI (8), eR v2]) rfl rfl rfl ?_
                  refine w_t (np := 35) (l2 := [some (eR a0), some (eI (8)), some (eI (6))]) (s2 := [eI (14), eR v2]) rfl (b_iadd rfl) rfl ?_
                  refine w_cu (np := 38) (as := [eI (14)]) (l2 := [some (eI (14))]) (rest := [eR v2]) rfl rfl rfl (Nat.ble_eq.mp rfl) rfl rfl rfl rfl ?_
                  refine w_t (np := 1) (l2 := [some (eI (14))]) (s2 := [eI (14)]) rfl rfl rfl ?_
                  refine w_t (np := 3) (l2 := [some (eI (14))]) (s2 := [eI (10), eI (14)]) rfl rfl rfl ?_
                  refine w_t (np := 4) (l2 := [some (eI (14))]) (s2 := [eI (4)]) rfl rfl rfl ?_
                  refine w_t (np := 6) (l2 := [some (eI (14))]) (s2 := [eI (10), eI (4)]) rfl rfl rfl ?_
                  refine w_t (np := 7) (l2 := [some (eI (14))]) (s2 := [eI (14)]) rfl (b_iadd rfl) rfl ?_
                  refine w_t (np := 9) (l2 := [some (eI (14))]) (s2 := [eI (10), eI (14)]) rfl rfl rfl ?_
                  refine w_t (np := 10) (l2 := [some (eI (14))]) (s2 := [eI (4)]) rfl rfl rfl ?_
                  refine b_ri rfl rfl ?_
                  show ex_q (dt_fg L ρ) rc (d + 1, (327, 38, [some (eR a0), some (eI (8)), some (eI (6))], [eI (4), eR v2]), f :: F, μ)
                  refine j_b3 (np := 39) rfl rfl hI b4 (by decide) (n := 10) rfl rfl (lo := 0) (hi := 1) (fun _ => rfl) (by decide) (by decide) ?_
                  intro v34 e35 b36
                  refine b_ine (t1 := 48) (t2 := 42) rfl rfl rfl (ev_w_in (by omega) (by omega)) (fun g37 => ?_) (fun g37 => ?_)
                  · have b38 : 1 ≤ v34 ∧ v34 ≤ 1 := by omega
                    refine w_t (np := 49) (l2 := [some (eR a0), some (eI (8)), some (eI (6))]) (s2 := [eI (6)]) rfl rfl rfl ?_
                    exact b_ri rfl rfl (K (6) (by decide) (gG_e (gG_c (r := μ.1 v2) (d := 8) (show μ.1 v2 8 = 0 from (e7).trans (by omega)) (fun z9 => by have z8 := (show μ.1 v2 7 = v10 from e11); have z7 : μ.1 v2 7 = 0 := z9; omega) (gN_s (show μ.1 v2 9 = 0 from (e15).trans (by omega)) (gN_s (show μ.1 v2 0 = 0 from (e19).trans (by omega)) (gN_s (show μ.1 v2 1 = 0 from (e23).trans (by omega)) (gN_s (show μ.1 v2 2 = 0 from (e27).trans (by omega)) (gN_s (show μ.1 v2 3 = 0 from (e31).trans (by omega)) (gN_e (fun z9 => by have z8 := (show μ.1 v2 4 = v34 from e35); have z7 : μ.1 v2 4 = 0 := z9; omega) rfl))))))) e3))
                  · have b38 : 0 ≤ v34 ∧ v34 ≤ 0 := by omega
                    refine w_t (np := 45) (l2 := [some (eR a0), some (eI (8)), some (eI (7))]) (s2 := []) rfl (b_iinc rfl rfl rfl) rfl ?_
                    refine w_go (t1 := 28) rfl rfl ?_
                    refine w_t (np := 29) (l2 := [some (eR a0), some (eI (8)), some (eI (7))]) (s2 := [eR a0]) rfl (s_an rfl (pos_g hI gA0 (by decide))) rfl ?_
                    refine w_gf (np := 32) (v := eR v2) rfl rfl (hI.kd gA0 (by decide) (n := 69) rfl) (by rw [e3]; rfl) ?_
                    refine w_t (np := 33) (l2 := [some (eR a0), some (eI (8)), some (eI (7))]) (s2 := [eI (8), eR v2]) rfl rfl rfl ?_
                    refine w_t (np := 34) (l2 := [some (eR a0), some (eI (8)), some (eI (7))]) (s2 := [eI (7), eI (8), eR v2]) rfl rfl rfl ?_
                    refine w_t (np := 35) (l2 := [some (eR a0), some (eI (8)), some (eI (7))]) (s2 := [eI (15), eR v2]) rfl (b_iadd rfl) rfl ?_
                    refine w_cu (np := 38) (as := [eI (15)]) (l2 := [some (eI (15))]) (rest := [eR v2]) rfl rfl rfl (Nat.ble_eq.mp rfl) rfl rfl rfl rfl ?_
                    refine w_t (np := 1) (l2 := [some (eI (15))]) (s2 := [eI (15)]) rfl rfl rfl ?_
                    refine w_t (np := 3) (l2 := [some (eI (15))]) (s2 := [eI (10), eI (15)]) rfl rfl rfl ?_
                    refine w_t (np := 4) (l2 := [some (eI (15))]) (s2 := [eI (5)]) rfl rfl rfl ?_
                    refine w_t (np := 6) (l2 := [some (eI (15))]) (s2 := [eI (10), eI (5)]) rfl rfl rfl ?_
                    refine w_t (np := 7) (l2 := [some (eI (15))]) (s2 := [eI (15)]) rfl (b_iadd rfl) rfl ?_
                    refine w_t (np := 9) (l2 := [some (eI (15))]) (s2 := [eI (10), eI (15)]) rfl rfl rfl ?_
                    refine w_t (np := 10) (l2 := [some (eI (15))]) (s2 := [eI (5)]) rfl rfl rfl ?_
                    refine b_ri rfl rfl ?_
                    show ex_q (dt_fg L ρ) rc (d + 1, (327, 38, [some (eR a0), some (eI (8)), some (eI (7))], [eI (5), eR v2]), f :: F, μ)
                    refine j_b3 (np := 39) rfl rfl hI b4 (by decide) (n := 10) rfl rfl (lo := 0) (hi := 1) (fun _ => rfl) (by decide) (by decide) ?_
                    intro v38 e39 b40
                    refine b_ine (t1 := 48) (t2 := 42) rfl rfl rfl (ev_w_in (by omega) (by omega)) (fun g41 => ?_) (fun g41 => ?_)
                    · have b42 : 1 ≤ v38 ∧ v38 ≤ 1 := by omega
                      refine w_t (np := 49) (l2 := [some (eR a0), some (eI (8)), some (eI (7))]) (s2 := [eI (7)]) rfl rfl rfl ?_
                      exact b_ri rfl rfl (K (7) (by decide) (gG_e (gG_c (r := μ.1 v2) (d := 8) (show μ.1 v2 8 = 0 from (e7).trans (by omega)) (fun z9 => by have z8 := (show μ.1 v2 7 = v10 from e11); have z7 : μ.1 v2 7 = 0 := z9; omega) (gN_s (show μ.1 v2 9 = 0 from (e15).trans (by omega)) (gN_s (show μ.1 v2 0 = 0 from (e19).trans (by omega)) (gN_s (show μ.1 v2 1 = 0 from (e23).trans (by omega)) (gN_s (show μ.1 v2 2 = 0 from (e27).trans (by omega)) (gN_s (show μ.1 v2 3 = 0 from (e31).trans (by omega)) (gN_s (show μ.1 v2 4 = 0 from (e35).trans (by omega)) (gN_e (fun z9 => by have z8 := (show μ.1 v2 5 = v38 from e39); have z7 : μ.1 v2 5 = 0 := z9; omega) rfl)))))))) e3))
                    · have b42 : 0 ≤ v38 ∧ v38 ≤ 0 := by omega
                      refine w_t (np := 45) (l2 := [some (eR a0), some (eI (8)), some (eI (8))]) (s2 := []) rfl (b_iinc rfl rfl rfl) rfl ?_
                      refine w_go (t1 := 28) rfl rfl ?_
                      refine w_t (np := 29) (l2 := [some (eR a0), some (eI (8)), some (eI (8))]) (s2 := [eR a0]) rfl (s_an rfl (pos_g hI gA0 (by decide))) rfl ?_
                      refine w_gf (np := 32) (v := eR v2) rfl rfl (hI.kd gA0 (by decide) (n := 69) rfl) (by rw [e3]; rfl) ?_
                      refine w_t (np := 33) (l2 := [some (eR a0), some (eI (8)), some (eI (8))]) (s2 := [eI (8), eR v2]) rfl rfl rfl ?_
                      refine w_t (np := 34) (l2 := [some (eR a0), some (eI (8)), some (eI (8))]) (s2 := [eI (8), eI (8), eR v2]) rfl rfl rfl ?_
                      refine w_t (np := 35) (l2 := [some (eR a0), some (eI (8)), some (eI (8))]) (s2 := [eI (16), eR v2]) rfl (b_iadd rfl) rfl ?_
                      refine w_cu (np := 38) (as := [eI (16)]) (l2 := [some (eI (16))]) (rest := [eR v2]) rfl rfl rfl (Nat.ble_eq.mp rfl) rfl rfl rfl rfl ?_
                      refine w_t (np := 1) (l2 := [some (eI (16))]) (s2 := [eI (16)]) rfl rfl rfl ?_
                      refine w_t (np := 3) (l2 := [some (eI (16))]) (s2 := [eI (10), eI (16)]) rfl rfl rfl ?_
                      refine w_t (np := 4) (l2 := [some (eI (16))]) (s2 := [eI (6)]) rfl rfl rfl ?_
                      refine w_t (np := 6) (l2 := [some (eI (16))]) (s2 := [eI (10), eI (6)]) rfl rfl rfl ?_
                      refine w_t (np := 7) (l2 := [some (eI (16))]) (s2 := [eI (16)]) rfl (b_iadd rfl) rfl ?_
                      refine w_t (np := 9) (l2 := [some (eI (16))]) (s2 := [eI (10), eI (16)]) rfl rfl rfl ?_
                      refine w_t (np := 10) (l2 := [some (eI (16))]) (s2 := [eI (6)]) rfl rfl rfl ?_
                      refine b_ri rfl rfl ?_
                      show ex_q (dt_fg L ρ) rc (d + 1, (327, 38, [some (eR a0), some (eI (8)), some (eI (8))], [eI (6), eR v2]), f :: F, μ)
                      refine j_b3 (np := 39) rfl rfl hI b4 (by decide) (n := 10) rfl rfl (lo := 0) (hi := 1) (fun _ => rfl) (by decide) (by decide) ?_
                      intro v42 e43 b44
                      refine b_ine (t1 := 48) (t2 := 42) rfl rfl rfl (ev_w_in (by omega) (by omega)) (fun g45 => ?_) (fun g45 => ?_)
                      · have b46 : 1 ≤ v42 ∧ v42 ≤ 1 := by omega
                        refine w_t (np := 49) (l2 := [some (eR a0), some (eI (8)), some (eI (8))]) (s2 := [eI (8)]) rfl rfl rfl ?_
                        exact b_ri rfl rfl (K (8) (by decide) (gG_e (gG_c (r := μ.1 v2) (d := 8) (show μ.1 v2 8 = 0 from (e7).trans (by omega)) (fun z9 => by have z8 := (show μ.1 v2 7 = v10 from e11); have z7 : μ.1 v2 7 = 0 := z9; omega) (gN_s (show μ.1 v2 9 = 0 from (e15).trans (by omega)) (gN_s (show μ.1 v2 0 = 0 from (e19).trans (by omega)) (gN_s (show μ.1 v2 1 = 0 from (e23).trans (by omega)) (gN_s (show μ.1 v2 2 = 0 from (e27).trans (by omega)) (gN_s (show μ.1 v2 3 = 0 from (e31).trans (by omega)) (gN_s (show μ.1 v2 4 = 0 from (e35).trans (by omega)) (gN_s (show μ.1 v2 5 = 0 from (e39).trans (by omega)) (gN_e (fun z9 => by have z8 := (show μ.1 v2 6 = v42 from e43); have z7 : μ.1 v2 6 = 0 := z9; omega) rfl))))))))) e3))
                      · have b46 : 0 ≤ v42 ∧ v42 ≤ 0 := by omega
                        refine w_t (np := 45) (l2 := [some (eR a0), some (eI (8)), some (eI (9))]) (s2 := []) rfl (b_iinc rfl rfl rfl) rfl ?_
                        refine w_go (t1 := 28) rfl rfl ?_
                        refine w_t (np := 29) (l2 := [some (eR a0), some (eI (8)), some (eI (9))]) (s2 := [eR a0]) rfl (s_an rfl (pos_g hI gA0 (by decide))) rfl ?_
                        refine w_gf (np := 32) (v := eR v2) rfl rfl (hI.kd gA0 (by decide) (n := 69) rfl) (by rw [e3]; rfl) ?_
                        refine w_t (np := 33) (l2 := [some (eR a0), some (eI (8)), some (eI (9))]) (s2 := [eI (8), eR v2]) rfl rfl rfl ?_
                        refine w_t (np := 34) (l2 := [some (eR a0), some (eI (8)), some (eI (9))]) (s2 := [eI (9), eI (8), eR v2]) rfl rfl rfl ?_
                        refine w_t (np := 35) (l2 := [some (eR a0), some (eI (8)), some (eI (9))]) (s2 := [eI (17), eR v2]) rfl (b_iadd rfl) rfl ?_
                        refine w_cu (np := 38) (as := [eI (17)]) (l2 := [some (eI (17))]) (rest := [eR v2]) rfl rfl rfl (Nat.ble_eq.mp rfl) rfl rfl rfl rfl ?_
                        refine w_t (np := 1) (l2 := [some (eI (17))]) (s2 := [eI (17)]) rfl rfl rfl ?_
                        refine w_t (np := 3) (l2 := [some (eI (17))]) (s2 := [eI (10), eI (17)]) rfl rfl rfl ?_
                        refine w_t (np := 4) (l2 := [some (eI (17))]) (s2 := [eI (7)]) rfl rfl rfl ?_
                        refine w_t (np := 6) (l2 := [some (eI (17))]) (s2 := [eI (10), eI (7)]) rfl rfl rfl ?_
                        refine w_t (np := 7) (l2 := [some (eI (17))]) (s2 := [eI (17)]) rfl (b_iadd rfl) rfl ?_
                        refine w_t (np := 9) (l2 := [some (eI (17))]) (s2 := [eI (10), eI (17)]) rfl rfl rfl ?_
                        refine w_t (np := 10) (l2 := [some (eI (17))]) (s2 := [eI (7)]) rfl rfl rfl ?_
                        refine b_ri rfl rfl ?_
                        show ex_q (dt_fg L ρ) rc (d + 1, (327, 38, [some (eR a0), some (eI (8)), some (eI (9))], [eI (7), eR v2]), f :: F, μ)
                        refine j_b3 (np := 39) rfl rfl hI b4 (by decide) (n := 10) rfl rfl (lo := 0) (hi := 1) (fun _ => rfl) (by decide) (by decide) ?_
                        intro v46 e47 b48
                        have e47 := e47.symm.trans e11
                        rw [e47]
                        refine b_ine (t1 := 48) (t2 := 42) rfl rfl rfl (ev_w_in (by omega) (by omega)) (fun g49 => ?_) (fun g49 => False.elim (by omega))
                        refine w_t (np := 49) (l2 := [some (eR a0), some (eI (8)), some (eI (9))]) (s2 := [eI (9)]) rfl rfl rfl ?_
                        exact b_ri rfl rfl (K (9) (by decide) (gG_e (gG_c (r := μ.1 v2) (d := 8) (show μ.1 v2 8 = 0 from (e7).trans (by omega)) (fun z9 => by have z8 := (show μ.1 v2 7 = v10 from e11); have z7 : μ.1 v2 7 = 0 := z9; omega) (gN_s (show μ.1 v2 9 = 0 from (e15).trans (by omega)) (gN_s (show μ.1 v2 0 = 0 from (e19).trans (by omega)) (gN_s (show μ.1 v2 1 = 0 from (e23).trans (by omega)) (gN_s (show μ.1 v2 2 = 0 from (e27).trans (by omega)) (gN_s (show μ.1 v2 3 = 0 from (e31).trans (by omega)) (gN_s (show μ.1 v2 4 = 0 from (e35).trans (by omega)) (gN_s (show μ.1 v2 5 = 0 from (e39).trans (by omega)) (gN_s (show μ.1 v2 6 = 0 from (e43).trans (by omega)) rfl))))))))) e3))
      · have b14 : 0 ≤ v10 ∧ v10 ≤ 0 := by omega
        refine w_t (np := 25) (l2 := [some (eR a0), some (eI (8)), none]) (s2 := [eI (0)]) rfl rfl rfl ?_
        exact b_ri rfl rfl (K (0) (by decide) (gG_e (gG_b (r := μ.1 v2) (d := 8) (show μ.1 v2 8 = 0 from (e7).trans (by omega)) (show μ.1 v2 7 = 0 from (e11).trans (by omega))) e3))
  · subst g1
    refine w_t (np := 1) (l2 := [some (eR a0), some (eI (9)), none]) (s2 := [eR a0]) rfl (s_an rfl (pos_g hI gA0 (by decide))) rfl ?_
    refine j_gr (np := 4) rfl rfl hI gA0 (by decide) (n := 69) rfl rfl rfl ?_
    intro v2 e3 b4 z5
    have b4 : g v2 = 85 := Nat.eq_of_beq_eq_true b4
    refine w_t (np := 5) (l2 := [some (eR a0), some (eI (9)), none]) (s2 := [eI (9), eR v2]) rfl rfl rfl ?_
    refine j_b3 (np := 6) rfl rfl hI b4 (by decide) (n := 10) rfl rfl (lo := 0) (hi := 1) (fun _ => rfl) (by decide) (by decide) ?_
    intro v6 e7 b8
    refine b_ine (t1 := 24) (t2 := 9) rfl rfl rfl (ev_w_in (by omega) (by omega)) (fun g9 => ?_) (fun g9 => ?_)
    · have b10 : 1 ≤ v6 ∧ v6 ≤ 1 := by omega
      refine w_t (np := 25) (l2 := [some (eR a0), some (eI (9)), none]) (s2 := [eI (0)]) rfl rfl rfl ?_
      exact b_ri rfl rfl (K (0) (by decide) (gG_e (gG_a (r := μ.1 v2) (d := 9) (fun z9 => by have z8 := (show μ.1 v2 9 = v6 from e7); have z7 : μ.1 v2 9 = 0 := z9; omega)) e3))
    · have b10 : 0 ≤ v6 ∧ v6 ≤ 0 := by omega
      refine w_t (np := 10) (l2 := [some (eR a0), some (eI (9)), none]) (s2 := [eR a0]) rfl (s_an rfl (pos_g hI gA0 (by decide))) rfl ?_
      refine w_gf (np := 13) (v := eR v2) rfl rfl (hI.kd gA0 (by decide) (n := 69) rfl) (by rw [e3]; rfl) ?_
      refine w_t (np := 14) (l2 := [some (eR a0), some (eI (9)), none]) (s2 := [eI (9), eR v2]) rfl rfl rfl ?_
      refine w_t (np := 16) (l2 := [some (eR a0), some (eI (9)), none]) (s2 := [eI (9), eI (9), eR v2]) rfl rfl rfl ?_
      refine w_t (np := 17) (l2 := [some (eR a0), some (eI (9)), none]) (s2 := [eI (18), eR v2]) rfl (b_iadd rfl) rfl ?_
      refine w_cu (np := 20) (as := [eI (18)]) (l2 := [some (eI (18))]) (rest := [eR v2]) rfl rfl rfl (Nat.ble_eq.mp rfl) rfl rfl rfl rfl ?_
      refine w_t (np := 1) (l2 := [some (eI (18))]) (s2 := [eI (18)]) rfl rfl rfl ?_
      refine w_t (np := 3) (l2 := [some (eI (18))]) (s2 := [eI (10), eI (18)]) rfl rfl rfl ?_
      refine w_t (np := 4) (l2 := [some (eI (18))]) (s2 := [eI (8)]) rfl rfl rfl ?_
      refine w_t (np := 6) (l2 := [some (eI (18))]) (s2 := [eI (10), eI (8)]) rfl rfl rfl ?_
      refine w_t (np := 7) (l2 := [some (eI (18))]) (s2 := [eI (18)]) rfl (b_iadd rfl) rfl ?_
      refine w_t (np := 9) (l2 := [some (eI (18))]) (s2 := [eI (10), eI (18)]) rfl rfl rfl ?_
      refine w_t (np := 10) (l2 := [some (eI (18))]) (s2 := [eI (8)]) rfl rfl rfl ?_
      refine b_ri rfl rfl ?_
      show ex_q (dt_fg L ρ) rc (d + 1, (327, 20, [some (eR a0), some (eI (9)), none], [eI (8), eR v2]), f :: F, μ)
      refine j_b3 (np := 21) rfl rfl hI b4 (by decide) (n := 10) rfl rfl (lo := 0) (hi := 1) (fun _ => rfl) (by decide) (by decide) ?_
      intro v10 e11 b12
      refine b_ine (t1 := 26) (t2 := 24) rfl rfl rfl (ev_w_in (by omega) (by omega)) (fun g13 => ?_) (fun g13 => ?_)
      · have b14 : 1 ≤ v10 ∧ v10 ≤ 1 := by omega
        refine w_t (np := 27) (l2 := [some (eR a0), some (eI (9)), none]) (s2 := [eI (1)]) rfl rfl rfl ?_
        refine w_t (np := 28) (l2 := [some (eR a0), some (eI (9)), some (eI (1))]) (s2 := []) rfl rfl rfl ?_
        refine w_t (np := 29) (l2 := [some (eR a0), some (eI (9)), some (eI (1))]) (s2 := [eR a0]) rfl (s_an rfl (pos_g hI gA0 (by decide))) rfl ?_
        refine w_gf (np := 32) (v := eR v2) rfl rfl (hI.kd gA0 (by decide) (n := 69) rfl) (by rw [e3]; rfl) ?_
        refine w_t (np := 33) (l2 := [some (eR a0), some (eI (9)), some (eI (1))]) (s2 := [eI (9), eR v2]) rfl rfl rfl ?_
        refine w_t (np := 34) (l2 := [some (eR a0), some (eI (9)), some (eI (1))]) (s2 := [eI (1), eI (9), eR v2]) rfl rfl rfl ?_
        refine w_t (np := 35) (l2 := [some (eR a0), some (eI (9)), some (eI (1))]) (s2 := [eI (10), eR v2]) rfl (b_iadd rfl) rfl ?_
        refine w_cu (np := 38) (as := [eI (10)]) (l2 := [some (eI (10))]) (rest := [eR v2]) rfl rfl rfl (Nat.ble_eq.mp rfl) rfl rfl rfl rfl ?_
        refine w_t (np := 1) (l2 := [some (eI (10))]) (s2 := [eI (10)]) rfl rfl rfl ?_
        refine w_t (np := 3) (l2 := [some (eI (10))]) (s2 := [eI (10), eI (10)]) rfl rfl rfl ?_
        refine w_t (np := 4) (l2 := [some (eI (10))]) (s2 := [eI (0)]) rfl rfl rfl ?_
        refine w_t (np := 6) (l2 := [some (eI (10))]) (s2 := [eI (10), eI (0)]) rfl rfl rfl ?_
        refine w_t (np := 7) (l2 := [some (eI (10))]) (s2 := [eI (10)]) rfl (b_iadd rfl) rfl ?_
        refine w_t (np := 9) (l2 := [some (eI (10))]) (s2 := [eI (10), eI (10)]) rfl rfl rfl ?_
        refine w_t (np := 10) (l2 := [some (eI (10))]) (s2 := [eI (0)]) rfl rfl rfl ?_
        refine b_ri rfl rfl ?_
        show ex_q (dt_fg L ρ) rc (d + 1, (327, 38, [some (eR a0), some (eI (9)), some (eI (1))], [eI (0), eR v2]), f :: F, μ)
        refine j_b3 (np := 39) rfl rfl hI b4 (by decide) (n := 10) rfl rfl (lo := 0) (hi := 1) (fun _ => rfl) (by decide) (by decide) ?_
        intro v14 e15 b16
        refine b_ine (t1 := 48) (t2 := 42) rfl rfl rfl (ev_w_in (by omega) (by omega)) (fun g17 => ?_) (fun g17 => ?_)
        · have b18 : 1 ≤ v14 ∧ v14 ≤ 1 := by omega
          refine w_t (np := 49) (l2 := [some (eR a0), some (eI (9)), some (eI (1))]) (s2 := [eI (1)]) rfl rfl rfl ?_
          exact b_ri rfl rfl (K (1) (by decide) (gG_e (gG_c (r := μ.1 v2) (d := 9) (show μ.1 v2 9 = 0 from (e7).trans (by omega)) (fun z9 => by have z8 := (show μ.1 v2 8 = v10 from e11); have z7 : μ.1 v2 8 = 0 := z9; omega) (gN_e (fun z9 => by have z8 := (show μ.1 v2 0 = v14 from e15); have z7 : μ.1 v2 0 = 0 := z9; omega) rfl)) e3))
        · have b18 : 0 ≤ v14 ∧ v14 ≤ 0 := by omega
          refine w_t (np := 45) (l2 := [some (eR a0), some (eI (9)), some (eI (2))]) (s2 := []) rfl (b_iinc rfl rfl rfl) rfl ?_
          refine w_go (t1 := 28) rfl rfl ?_
          refine w_t (np := 29) (l2 := [some (eR a0), some (eI (9)), some (eI (2))]) (s2 := [eR a0]) rfl (s_an rfl (pos_g hI gA0 (by decide))) rfl ?_
          refine w_gf (np := 32) (v := eR v2) rfl rfl (hI.kd gA0 (by decide) (n := 69) rfl) (by rw [e3]; rfl) ?_
          refine w_t (np := 33) (l2 := [some (eR a0), some (eI (9)), some (eI (2))]) (s2 := [eI (9), eR v2]) rfl rfl rfl ?_
          refine w_t (np := 34) (l2 := [some (eR a0), some (eI (9)), some (eI (2))]) (s2 := [eI (2), eI (9), eR v2]) rfl rfl rfl ?_
          refine w_t (np := 35) (l2 := [some (eR a0), some (eI (9)), some (eI (2))]) (s2 := [eI (11), eR v2]) rfl (b_iadd rfl) rfl ?_
          refine w_cu (np := 38) (as := [eI (11)]) (l2 := [some (eI (11))]) (rest := [eR v2]) rfl rfl rfl (Nat.ble_eq.mp rfl) rfl rfl rfl rfl ?_
          refine w_t (np := 1) (l2 := [some (eI (11))]) (s2 := [eI (11)]) rfl rfl rfl ?_
          refine w_t (np := 3) (l2 := [some (eI (11))]) (s2 := [eI (10), eI (11)]) rfl rfl rfl ?_
          refine w_t (np := 4) (l2 := [some (eI (11))]) (s2 := [eI (1)]) rfl rfl rfl ?_
          refine w_t (np := 6) (l2 := [some (eI (11))]) (s2 := [eI (10), eI (1)]) rfl rfl rfl ?_
          refine w_t (np := 7) (l2 := [some (eI (11))]) (s2 := [eI (11)]) rfl (b_iadd rfl) rfl ?_
          refine w_t (np := 9) (l2 := [some (eI (11))]) (s2 := [eI (10), eI (11)]) rfl rfl rfl ?_
          refine w_t (np := 10) (l2 := [some (eI (11))]) (s2 := [eI (1)]) rfl rfl rfl ?_
          refine b_ri rfl rfl ?_
          show ex_q (dt_fg L ρ) rc (d + 1, (327, 38, [some (eR a0), some (eI (9)), some (eI (2))], [eI (1), eR v2]), f :: F, μ)
          refine j_b3 (np := 39) rfl rfl hI b4 (by decide) (n := 10) rfl rfl (lo := 0) (hi := 1) (fun _ => rfl) (by decide) (by decide) ?_
          intro v18 e19 b20
          refine b_ine (t1 := 48) (t2 := 42) rfl rfl rfl (ev_w_in (by omega) (by omega)) (fun g21 => ?_) (fun g21 => ?_)
          · have b22 : 1 ≤ v18 ∧ v18 ≤ 1 := by omega
            refine w_t (np := 49) (l2 := [some (eR a0), some (eI (9)), some (eI (2))]) (s2 := [eI (2)]) rfl rfl rfl ?_
            exact b_ri rfl rfl (K (2) (by decide) (gG_e (gG_c (r := μ.1 v2) (d := 9) (show μ.1 v2 9 = 0 from (e7).trans (by omega)) (fun z9 => by have z8 := (show μ.1 v2 8 = v10 from e11); have z7 : μ.1 v2 8 = 0 := z9; omega) (gN_s (show μ.1 v2 0 = 0 from (e15).trans (by omega)) (gN_e (fun z9 => by have z8 := (show μ.1 v2 1 = v18 from e19); have z7 : μ.1 v2 1 = 0 := z9; omega) rfl))) e3))
          · have b22 : 0 ≤ v18 ∧ v18 ≤ 0 := by omega
            refine w_t (np := 45) (l2 := [some (eR a0), some (eI (9)), some (eI (3))]) (s2 := []) rfl (b_iinc rfl rfl rfl) rfl ?_
            refine w_go (t1 := 28) rfl rfl ?_
            refine w_t (np := 29) (l2 := [some (eR a0), some (eI (9)), some (eI (3))]) (s2 := [eR a0]) rfl (s_an rfl (pos_g hI gA0 (by decide))) rfl ?_
            refine w_gf (np := 32) (v := eR v2) rfl rfl (hI.kd gA0 (by decide) (n := 69) rfl) (by rw [e3]; rfl) ?_
            refine w_t (np := 33) (l2 := [some (eR a0), some (eI (9)), some (eI (3))]) (s2 := [eI (9), eR v2]) rfl rfl rfl ?_
            refine w_t (np := 34) (l2 := [some (eR a0), some (eI (9)), some (eI (3))]) (s2 := [eI (3), eI (9), eR v2]) rfl rfl rfl ?_
            refine w_t (np := 35) (l2 := [some (eR a0), some (eI (9)), some (eI (3))]) (s2 := [eI (12), eR v2]) rfl (b_iadd rfl) rfl ?_
            refine w_cu (np := 38) (as := [eI (12)]) (l2 := [some (eI (12))]) (rest := [eR v2]) rfl rfl rfl (Nat.ble_eq.mp rfl) rfl rfl rfl rfl ?_
            refine w_t (np := 1) (l2 := [some (eI (12))]) (s2 := [eI (12)]) rfl rfl rfl ?_
            refine w_t (np := 3) (l2 := [some (eI (12))]) (s2 := [eI (10), eI (12)]) rfl rfl rfl ?_
            refine w_t (np := 4) (l2 := [some (eI (12))]) (s2 := [eI (2)]) rfl rfl rfl ?_
            refine w_t (np := 6) (l2 := [some (eI (12))]) (s2 := [eI (10), eI (2)]) rfl rfl rfl ?_
            refine w_t (np := 7) (l2 := [some (eI (12))]) (s2 := [eI (12)]) rfl (b_iadd rfl) rfl ?_
            refine w_t (np := 9) (l2 := [some (eI (12))]) (s2 := [eI (10), eI (12)]) rfl rfl rfl ?_
            refine w_t (np := 10) (l2 := [some (eI (12))]) (s2 := [eI (2)]) rfl rfl rfl ?_
            refine b_ri rfl rfl ?_
            show ex_q (dt_fg L ρ) rc (d + 1, (327, 38, [some (eR a0), some (eI (9)), some (eI (3))], [eI (2), eR v2]), f :: F, μ)
            refine j_b3 (np := 39) rfl rfl hI b4 (by decide) (n := 10) rfl rfl (lo := 0) (hi := 1) (fun _ => rfl) (by decide) (by decide) ?_
            intro v22 e23 b24
            refine b_ine (t1 := 48) (t2 := 42) rfl rfl rfl (ev_w_in (by omega) (by omega)) (fun g25 => ?_) (fun g25 => ?_)
            · have b26 : 1 ≤ v22 ∧ v22 ≤ 1 := by omega
              refine w_t (np := 49) (l2 := [some (eR a0), some (eI (9)), some (eI (3))]) (s2 := [eI (3)]) rfl rfl rfl ?_
              exact b_ri rfl rfl (K (3) (by decide) (gG_e (gG_c (r := μ.1 v2) (d := 9) (show μ.1 v2 9 = 0 from (e7).trans (by omega)) (fun z9 => by have z8 := (show μ.1 v2 8 = v10 from e11); have z7 : μ.1 v2 8 = 0 := z9; omega) (gN_s (show μ.1 v2 0 = 0 from (e15).trans (by omega)) (gN_s (show μ.1 v2 1 = 0 from (e19).trans (by omega)) (gN_e (fun z9 => by have z8 := (show μ.1 v2 2 = v22 from e23); have z7 : μ.1 v2 2 = 0 := z9; omega) rfl)))) e3))
            · have b26 : 0 ≤ v22 ∧ v22 ≤ 0 := by omega
              refine w_t (np := 45) (l2 := [some (eR a0), some (eI (9)), some (eI (4))]) (s2 := []) rfl (b_iinc rfl rfl rfl) rfl ?_
              refine w_go (t1 := 28) rfl rfl ?_
              refine w_t (np := 29) (l2 := [some (eR a0), some (eI (9)), some (eI (4))]) (s2 := [eR a0]) rfl (s_an rfl (pos_g hI gA0 (by decide))) rfl ?_
              refine w_gf (np := 32) (v := eR v2) rfl rfl (hI.kd gA0 (by decide) (n := 69) rfl) (by rw [e3]; rfl) ?_
              refine w_t (np := 33) (l2 := [some (eR a0), some (eI (9)), some (eI (4))]) (s2 := [eI (9), eR v2]) rfl rfl rfl ?_
              refine w_t (np := 34) (l2 := [some (eR a0), some (eI (9)), some (eI (4))]) (s2 := [eI (4), eI (9), eR v2]) rfl rfl rfl ?_
              refine w_t (np := 35) (l2 := [some (eR a0), some (eI (9)), some (eI (4))]) (s2 := [eI (13), eR v2]) rfl (b_iadd rfl) rfl ?_
              refine w_cu (np := 38) (as := [eI (13)]) (l2 := [some (eI (13))]) (rest := [eR v2]) rfl rfl rfl (Nat.ble_eq.mp rfl) rfl rfl rfl rfl ?_
              refine w_t (np := 1) (l2 := [some (eI (13))]) (s2 := [eI (13)]) rfl rfl rfl ?_
              refine w_t (np := 3) (l2 := [some (eI (13))]) (s2 := [eI (10), eI (13)]) rfl rfl rfl ?_
              refine w_t (np := 4) (l2 := [some (eI (13))]) (s2 := [eI (3)]) rfl rfl rfl ?_
              refine w_t (np := 6) (l2 := [some (eI (13))]) (s2 := [eI (10), eI (3)]) rfl rfl rfl ?_
              refine w_t (np := 7) (l2 := [some (eI (13))]) (s2 := [eI (13)]) rfl (b_iadd rfl) rfl ?_
              refine w_t (np := 9) (l2 := [some (eI (13))]) (s2 := [eI (10), eI (13)]) rfl rfl rfl ?_
              refine w_t (np := 10) (l2 := [some (eI (13))]) (s2 := [eI (3)]) rfl rfl rfl ?_
              refine b_ri rfl rfl ?_
              show ex_q (dt_fg L ρ) rc (d + 1, (327, 38, [some (eR a0), some (eI (9)), some (eI (4))], [eI (3), eR v2]), f :: F, μ)
              refine j_b3 (np := 39) rfl rfl hI b4 (by decide) (n := 10) rfl rfl (lo := 0) (hi := 1) (fun _ => rfl) (by decide) (by decide) ?_
              intro v26 e27 b28
              refine b_ine (t1 := 48) (t2 := 42) rfl rfl rfl (ev_w_in (by omega) (by omega)) (fun g29 => ?_) (fun g29 => ?_)
              · have b30 : 1 ≤ v26 ∧ v26 ≤ 1 := by omega
                refine w_t (np := 49) (l2 := [some (eR a0), some (eI (9)), some (eI (4))]) (s2 := [eI (4)]) rfl rfl rfl ?_
                exact b_ri rfl rfl (K (4) (by decide) (gG_e (gG_c (r := μ.1 v2) (d := 9) (show μ.1 v2 9 = 0 from (e7).trans (by omega)) (fun z9 => by have z8 := (show μ.1 v2 8 = v10 from e11); have z7 : μ.1 v2 8 = 0 := z9; omega) (gN_s (show μ.1 v2 0 = 0 from (e15).trans (by omega)) (gN_s (show μ.1 v2 1 = 0 from (e19).trans (by omega)) (gN_s (show μ.1 v2 2 = 0 from (e23).trans (by omega)) (gN_e (fun z9 => by have z8 := (show μ.1 v2 3 = v26 from e27); have z7 : μ.1 v2 3 = 0 := z9; omega) rfl))))) e3))
              · have b30 : 0 ≤ v26 ∧ v26 ≤ 0 := by omega
                refine w_t (np := 45) (l2 := [some (eR a0), some (eI (9)), some (eI (5))]) (s2 := []) rfl (b_iinc rfl rfl rfl) rfl ?_
                refine w_go (t1 := 28) rfl rfl ?_
                refine w_t (np := 29) (l2 := [some (eR a0), some (eI (9)), some (eI (5))]) (s2 := [eR a0]) rfl (s_an rfl (pos_g hI gA0 (by decide))) rfl ?_
                refine w_gf (np := 32) (v := eR v2) rfl rfl (hI.kd gA0 (by decide) (n := 69) rfl) (by rw [e3]; rfl) ?_
                refine w_t (np := 33) (l2 := [some (eR a0), some (eI (9)), some (eI (5))]) (s2 := [eI (9), eR v2]) rfl rfl rfl ?_
                refine w_t (np := 34) (l2 := [some (eR a0), some (eI (9)), some (eI (5))]) (s2 := [eI (5), eI (9), eR v2]) rfl rfl rfl ?_
                refine w_t (np := 35) (l2 := [some (eR a0), some (eI (9)), some (eI (5))]) (s2 := [eI (14), eR v2]) rfl (b_iadd rfl) rfl ?_
                refine w_cu (np := 38) (as := [eI (14)]) (l2 := [some (eI (14))]) (rest := [eR v2]) rfl rfl rfl (Nat.ble_eq.mp rfl) rfl rfl rfl rfl ?_
                refine w_t (np := 1) (l2 := [some (eI (14))]) (s2 := [eI (14)]) rfl rfl rfl ?_
                refine w_t (np := 3) (l2 := [some (eI (14))]) (s2 := [eI (10), eI (14)]) rfl rfl rfl ?_
                refine w_t (np := 4) (l2 := [some (eI (14))]) (s2 := [eI (4)]) rfl rfl rfl ?_
                refine w_t (np := 6) (l2 := [some (eI (14))]) (s2 := [eI (10), eI (4)]) rfl rfl rfl ?_
                refine w_t (np := 7) (l2 := [some (eI (14))]) (s2 := [eI (14)]) rfl (b_iadd rfl) rfl ?_
                refine w_t (np := 9) (l2 := [some (eI (14))]) (s2 := [eI (10), eI (14)]) rfl rfl rfl ?_
                refine w_t (np := 10) (l2 := [some (eI (14))]) (s2 := [eI (4)]) rfl rfl rfl ?_
                refine b_ri rfl rfl ?_
                show ex_q (dt_fg L ρ) rc (d + 1, (327, 38, [some (eR a0), some (eI (9)), some (eI (5))], [eI (4), eR v2]), f :: F, μ)
                refine j_b3 (np := 39) rfl rfl hI b4 (by decide) (n := 10) rfl rfl (lo := 0) (hi := 1) (fun _ => rfl) (by decide) (by decide) ?_
                intro v30 e31 b32
                refine b_ine (t1 := 48) (t2 := 42) rfl rfl rfl (ev_w_in (by omega) (by omega)) (fun g33 => ?_) (fun g33 => ?_)
                · have b34 : 1 ≤ v30 ∧ v30 ≤ 1 := by omega
                  refine w_t (np := 49) (l2 := [some (eR a0), some (eI (9)), some (eI (5))]) (s2 := [eI (5)]) rfl rfl rfl ?_
                  exact b_ri rfl rfl (K (5) (by decide) (gG_e (gG_c (r := μ.1 v2) (d := 9) (show μ.1 v2 9 = 0 from (e7).trans (by omega)) (fun z9 => by have z8 := (show μ.1 v2 8 = v10 from e11); have z7 : μ.1 v2 8 = 0 := z9; omega) (gN_s (show μ.1 v2 0 = 0 from (e15).trans (by omega)) (gN_s (show μ.1 v2 1 = 0 from (e19).trans (by omega)) (gN_s (show μ.1 v2 2 = 0 from (e23).trans (by omega)) (gN_s (show μ.1 v2 3 = 0 from (e27).trans (by omega)) (gN_e (fun z9 => by have z8 := (show μ.1 v2 4 = v30 from e31); have z7 : μ.1 v2 4 = 0 := z9; omega) rfl)))))) e3))
                · have b34 : 0 ≤ v30 ∧ v30 ≤ 0 := by omega
                  refine w_t (np := 45) (l2 := [some (eR a0), some (eI (9)), some (eI (6))]) (s2 := []) rfl (b_iinc rfl rfl rfl) rfl ?_
                  refine w_go (t1 := 28) rfl rfl ?_
                  refine w_t (np := 29) (l2 := [some (eR a0), some (eI (9)), some (eI (6))]) (s2 := [eR a0]) rfl (s_an rfl (pos_g hI gA0 (by decide))) rfl ?_
                  refine w_gf (np := 32) (v := eR v2) rfl rfl (hI.kd gA0 (by decide) (n := 69) rfl) (by rw [e3]; rfl) ?_
                  refine w_t (np := 33) (l2 := [some (eR a0), some (eI (9)), some (eI (6))]) (s2 := [eI (9), eR v2]) rfl rfl rfl ?_
                  refine w_t (np := 34) (l2 := [some (eR a0), some (eI (9)), some (eI (6))]) (s2 := [eI (6), eI (9), eR v2]) rfl rfl rfl ?_
                  refine w_t (np := 35) (l2 := [some (eR a0), some (eI (9)), some (eI (6))]) (s2 := [eI (15), eR v2]) rfl (b_iadd rfl) rfl ?_
                  refine w_cu (np := 38) (as := [eI (15)]) (l2 := [some (eI (15))]) (rest := [eR v2]) rfl rfl rfl (Nat.ble_eq.mp rfl) rfl rfl rfl rfl ?_
                  refine w_t (np := 1) (l2 := [some (eI (15))]) (s2 := [eI (15)]) rfl rfl rfl ?_
                  refine w_t (np := 3) (l2 := [some (eI (15))]) (s2 := [eI (10), eI (15)]) rfl rfl rfl ?_
                  refine w_t (np := 4) (l2 := [some (eI (15))]) (s2 := [eI (5)]) rfl rfl rfl ?_
                  refine w_t (np := 6) (l2 := [some (eI (15))]) (s2 := [eI (10), eI (5)]) rfl rfl rfl ?_
                  refine w_t (np := 7) (l2 := [some (eI (15))]) (s2 := [eI (15)]) rfl (b_iadd rfl) rfl ?_
                  refine w_t (np := 9) (l2 := [some (eI (15))]) (s2 := [eI (10), eI (15)]) rfl rfl rfl ?_
                  refine w_t (np := 10) (l2 := [some (eI (15))]) (s2 := [eI (5)]) rfl rfl rfl ?_
                  refine b_ri rfl rfl ?_
                  show ex_q (dt_fg L ρ) rc (d + 1, (327, 38, [some (eR a0), some (eI (9)), some (eI (6))], [eI (5), eR v2]), f :: F, μ)
                  refine j_b3 (np := 39) rfl rfl hI b4 (by decide) (n := 10) rfl rfl (lo := 0) (hi := 1) (fun _ => rfl) (by decide) (by decide) ?_
                  intro v34 e35 b36
                  refine b_ine (t1 := 48) (t2 := 42) rfl rfl rfl (ev_w_in (by omega) (by omega)) (fun g37 => ?_) (fun g37 => ?_)
                  · have b38 : 1 ≤ v34 ∧ v34 ≤ 1 := by omega
                    refine w_t (np := 49) (l2 := [some (eR a0), some (eI (9)), some (eI (6))]) (s2 := [eI (6)]) rfl rfl rfl ?_
                    exact b_ri rfl rfl (K (6) (by decide) (gG_e (gG_c (r := μ.1 v2) (d := 9) (show μ.1 v2 9 = 0 from (e7).trans (by omega)) (fun z9 => by have z8 := (show μ.1 v2 8 = v10 from e11); have z7 : μ.1 v2 8 = 0 := z9; omega) (gN_s (show μ.1 v2 0 = 0 from (e15).trans (by omega)) (gN_s (show μ.1 v2 1 = 0 from (e19).trans (by omega)) (gN_s (show μ.1 v2 2 = 0 from (e23).trans (by omega)) (gN_s (show μ.1 v2 3 = 0 from (e27).trans (by omega)) (gN_s (show μ.1 v2 4 = 0 from (e31).trans (by omega)) (gN_e (fun z9 => by have z8 := (show μ.1 v2 5 = v34 from e35); have z7 : μ.1 v2 5 = 0 := z9; omega) rfl))))))) e3))
                  · have b38 : 0 ≤ v34 ∧ v34 ≤ 0 := by omega
                    refine w_t (np := 45) (l2 := [some (eR a0), some (eI (9)), some (eI (7))]) (s2 := []) rfl (b_iinc rfl rfl rfl) rfl ?_
                    refine w_go (t1 := 28) rfl rfl ?_
                    refine w_t (np := 29) (l2 := [some (eR a0), some (eI (9)), some (eI (7))]) (s2 := [eR a0]) rfl (s_an rfl (pos_g hI gA0 (by decide))) rfl ?_
                    refine w_gf (np := 32) (v := eR v2) rfl rfl (hI.kd gA0 (by decide) (n := 69) rfl) (by rw [e3]; rfl) ?_
                    refine w_t (np := 33) (l2 := [some (eR a0), some (eI (9)), some (eI (7))]) (s2 := [eI (9), eR v2]) rfl rfl rfl ?_
                    refine w_t (np := 34) (l2 := [some (eR a0), some (eI (9)), some (eI (7))]) (s2 := [eI (7), eI (9), eR v2]) rfl rfl rfl ?_
                    refine w_t (np := 35) (l2 := [some (eR a0), some (eI (9)), some (eI (7))]) (s2 := [eI (16), eR v2]) rfl (b_iadd rfl) rfl ?_
                    refine w_cu (np := 38) (as := [eI (16)]) (l2 := [some (eI (16))]) (rest := [eR v2]) rfl rfl rfl (Nat.ble_eq.mp rfl) rfl rfl rfl rfl ?_
                    refine w_t (np := 1) (l2 := [some (eI (16))]) (s2 := [eI (16)]) rfl rfl rfl ?_
                    refine w_t (np := 3) (l2 := [some (eI (16))]) (s2 := [eI (10), eI (16)]) rfl rfl rfl ?_
                    refine w_t (np := 4) (l2 := [some (eI (16))]) (s2 := [eI (6)]) rfl rfl rfl ?_
                    refine w_t (np := 6) (l2 := [some (eI (16))]) (s2 := [eI (10), eI (6)]) rfl rfl rfl ?_
                    refine w_t (np := 7) (l2 := [some (eI (16))]) (s2 := [eI (16)]) rfl (b_iadd rfl) rfl ?_
                    refine w_t (np := 9) (l2 := [some (eI (16))]) (s2 := [eI (10), eI (16)]) rfl rfl rfl ?_
                    refine w_t (np := 10) (l2 := [some (eI (16))]) (s2 := [eI (6)]) rfl rfl rfl ?_
                    refine b_ri rfl rfl ?_
                    show ex_q (dt_fg L ρ) rc (d + 1, (327, 38, [some (eR a0), some (eI (9)), some (eI (7))], [eI (6), eR v2]), f :: F, μ)
                    refine j_b3 (np := 39) rfl rfl hI b4 (by decide) (n := 10) rfl rfl (lo := 0) (hi := 1) (fun _ => rfl) (by decide) (by decide) ?_
                    intro v38 e39 b40
                    refine b_ine (t1 := 48) (t2 := 42) rfl rfl rfl (ev_w_in (by omega) (by omega)) (fun g41 => ?_) (fun g41 => ?_)
                    · have b42 : 1 ≤ v38 ∧ v38 ≤ 1 := by omega
                      refine w_t (np := 49) (l2 := [some (eR a0), some (eI (9)), some (eI (7))]) (s2 := [eI (7)]) rfl rfl rfl ?_
                      exact b_ri rfl rfl (K (7) (by decide) (gG_e (gG_c (r := μ.1 v2) (d := 9) (show μ.1 v2 9 = 0 from (e7).trans (by omega)) (fun z9 => by have z8 := (show μ.1 v2 8 = v10 from e11); have z7 : μ.1 v2 8 = 0 := z9; omega) (gN_s (show μ.1 v2 0 = 0 from (e15).trans (by omega)) (gN_s (show μ.1 v2 1 = 0 from (e19).trans (by omega)) (gN_s (show μ.1 v2 2 = 0 from (e23).trans (by omega)) (gN_s (show μ.1 v2 3 = 0 from (e27).trans (by omega)) (gN_s (show μ.1 v2 4 = 0 from (e31).trans (by omega)) (gN_s (show μ.1 v2 5 = 0 from (e35).trans (by omega)) (gN_e (fun z9 => by have z8 := (show μ.1 v2 6 = v38 from e39); have z7 : μ.1 v2 6 = 0 := z9; omega) rfl)))))))) e3))
                    · have b42 : 0 ≤ v38 ∧ v38 ≤ 0 := by omega
                      refine w_t (np := 45) (l2 := [some (eR a0), some (eI (9)), some (eI (8))]) (s2 := []) rfl (b_iinc rfl rfl rfl) rfl ?_
                      refine w_go (t1 := 28) rfl rfl ?_
                      refine w_t (np := 29) (l2 := [some (eR a0), some (eI (9)), some (eI (8))]) (s2 := [eR a0]) rfl (s_an rfl (pos_g hI gA0 (by decide))) rfl ?_
                      refine w_gf (np := 32) (v := eR v2) rfl rfl (hI.kd gA0 (by decide) (n := 69) rfl) (by rw [e3]; rfl) ?_
                      refine w_t (np := 33) (l2 := [some (eR a0), some (eI (9)), some (eI (8))]) (s2 := [eI (9), eR v2]) rfl rfl rfl ?_
                      refine w_t (np := 34) (l2 := [some (eR a0), some (eI (9)), some (eI (8))]) (s2 := [eI (8), eI (9), eR v2]) rfl rfl rfl ?_
                      refine w_t (np := 35) (l2 := [some (eR a0), some (eI (9)), some (eI (8))]) (s2 := [eI (17), eR v2]) rfl (b_iadd rfl) rfl ?_
                      refine w_cu (np := 38) (as := [eI (17)]) (l2 := [some (eI (17))]) (rest := [eR v2]) rfl rfl rfl (Nat.ble_eq.mp rfl) rfl rfl rfl rfl ?_
                      refine w_t (np := 1) (l2 := [some (eI (17))]) (s2 := [eI (17)]) rfl rfl rfl ?_
                      refine w_t (np := 3) (l2 := [some (eI (17))]) (s2 := [eI (10), eI (17)]) rfl rfl rfl ?_
                      refine w_t (np := 4) (l2 := [some (eI (17))]) (s2 := [eI (7)]) rfl rfl rfl ?_
                      refine w_t (np := 6) (l2 := [some (eI (17))]) (s2 := [eI (10), eI (7)]) rfl rfl rfl ?_
                      refine w_t (np := 7) (l2 := [some (eI (17))]) (s2 := [eI (17)]) rfl (b_iadd rfl) rfl ?_
                      refine w_t (np := 9) (l2 := [some (eI (17))]) (s2 := [eI (10), eI (17)]) rfl rfl rfl ?_
                      refine w_t (np := 10) (l2 := [some (eI (17))]) (s2 := [eI (7)]) rfl rfl rfl ?_
                      refine b_ri rfl rfl ?_
                      show ex_q (dt_fg L ρ) rc (d + 1, (327, 38, [some (eR a0), some (eI (9)), some (eI (8))], [eI (7), eR v2]), f :: F, μ)
                      refine j_b3 (np := 39) rfl rfl hI b4 (by decide) (n := 10) rfl rfl (lo := 0) (hi := 1) (fun _ => rfl) (by decide) (by decide) ?_
                      intro v42 e43 b44
                      refine b_ine (t1 := 48) (t2 := 42) rfl rfl rfl (ev_w_in (by omega) (by omega)) (fun g45 => ?_) (fun g45 => ?_)
                      · have b46 : 1 ≤ v42 ∧ v42 ≤ 1 := by omega
                        refine w_t (np := 49) (l2 := [some (eR a0), some (eI (9)), some (eI (8))]) (s2 := [eI (8)]) rfl rfl rfl ?_
                        exact b_ri rfl rfl (K (8) (by decide) (gG_e (gG_c (r := μ.1 v2) (d := 9) (show μ.1 v2 9 = 0 from (e7).trans (by omega)) (fun z9 => by have z8 := (show μ.1 v2 8 = v10 from e11); have z7 : μ.1 v2 8 = 0 := z9; omega) (gN_s (show μ.1 v2 0 = 0 from (e15).trans (by omega)) (gN_s (show μ.1 v2 1 = 0 from (e19).trans (by omega)) (gN_s (show μ.1 v2 2 = 0 from (e23).trans (by omega)) (gN_s (show μ.1 v2 3 = 0 from (e27).trans (by omega)) (gN_s (show μ.1 v2 4 = 0 from (e31).trans (by omega)) (gN_s (show μ.1 v2 5 = 0 from (e35).trans (by omega)) (gN_s (show μ.1 v2 6 = 0 from (e39).trans (by omega)) (gN_e (fun z9 => by have z8 := (show μ.1 v2 7 = v42 from e43); have z7 : μ.1 v2 7 = 0 := z9; omega) rfl))))))))) e3))
                      · have b46 : 0 ≤ v42 ∧ v42 ≤ 0 := by omega
                        refine w_t (np := 45) (l2 := [some (eR a0), some (eI (9)), some (eI (9))]) (s2 := []) rfl (b_iinc rfl rfl rfl) rfl ?_
                        refine w_go (t1 := 28) rfl rfl ?_
                        refine w_t (np := 29) (l2 := [some (eR a0), some (eI (9)), some (eI (9))]) (s2 := [eR a0]) rfl (s_an rfl (pos_g hI gA0 (by decide))) rfl ?_
                        refine w_gf (np := 32) (v := eR v2) rfl rfl (hI.kd gA0 (by decide) (n := 69) rfl) (by rw [e3]; rfl) ?_
                        refine w_t (np := 33) (l2 := [some (eR a0), some (eI (9)), some (eI (9))]) (s2 := [eI (9), eR v2]) rfl rfl rfl ?_
                        refine w_t (np := 34) (l2 := [some (eR a0), some (eI (9)), some (eI (9))]) (s2 := [eI (9), eI (9), eR v2]) rfl rfl rfl ?_
                        refine w_t (np := 35) (l2 := [some (eR a0), some (eI (9)), some (eI (9))]) (s2 := [eI (18), eR v2]) rfl (b_iadd rfl) rfl ?_
                        refine w_cu (np := 38) (as := [eI (18)]) (l2 := [some (eI (18))]) (rest := [eR v2]) rfl rfl rfl (Nat.ble_eq.mp rfl) rfl rfl rfl rfl ?_
                        refine w_t (np := 1) (l2 := [some (eI (18))]) (s2 := [eI (18)]) rfl rfl rfl ?_
                        refine w_t (np := 3) (l2 := [some (eI (18))]) (s2 := [eI (10), eI (18)]) rfl rfl rfl ?_
                        refine w_t (np := 4) (l2 := [some (eI (18))]) (s2 := [eI (8)]) rfl rfl rfl ?_
                        refine w_t (np := 6) (l2 := [some (eI (18))]) (s2 := [eI (10), eI (8)]) rfl rfl rfl ?_
                        refine w_t (np := 7) (l2 := [some (eI (18))]) (s2 := [eI (18)]) rfl (b_iadd rfl) rfl ?_
                        refine w_t (np := 9) (l2 := [some (eI (18))]) (s2 := [eI (10), eI (18)]) rfl rfl rfl ?_
                        refine w_t (np := 10) (l2 := [some (eI (18))]) (s2 := [eI (8)]) rfl rfl rfl ?_
                        refine b_ri rfl rfl ?_
                        show ex_q (dt_fg L ρ) rc (d + 1, (327, 38, [some (eR a0), some (eI (9)), some (eI (9))], [eI (8), eR v2]), f :: F, μ)
                        refine j_b3 (np := 39) rfl rfl hI b4 (by decide) (n := 10) rfl rfl (lo := 0) (hi := 1) (fun _ => rfl) (by decide) (by decide) ?_
                        intro v46 e47 b48
                        have e47 := e47.symm.trans e11
                        rw [e47]
                        refine b_ine (t1 := 48) (t2 := 42) rfl rfl rfl (ev_w_in (by omega) (by omega)) (fun g49 => ?_) (fun g49 => False.elim (by omega))
                        refine w_t (np := 49) (l2 := [some (eR a0), some (eI (9)), some (eI (9))]) (s2 := [eI (9)]) rfl rfl rfl ?_
                        exact b_ri rfl rfl (K (9) (by decide) (gG_e (gG_c (r := μ.1 v2) (d := 9) (show μ.1 v2 9 = 0 from (e7).trans (by omega)) (fun z9 => by have z8 := (show μ.1 v2 8 = v10 from e11); have z7 : μ.1 v2 8 = 0 := z9; omega) (gN_s (show μ.1 v2 0 = 0 from (e15).trans (by omega)) (gN_s (show μ.1 v2 1 = 0 from (e19).trans (by omega)) (gN_s (show μ.1 v2 2 = 0 from (e23).trans (by omega)) (gN_s (show μ.1 v2 3 = 0 from (e27).trans (by omega)) (gN_s (show μ.1 v2 4 = 0 from (e31).trans (by omega)) (gN_s (show μ.1 v2 5 = 0 from (e35).trans (by omega)) (gN_s (show μ.1 v2 6 = 0 from (e39).trans (by omega)) (gN_s (show μ.1 v2 7 = 0 from (e43).trans (by omega)) rfl))))))))) e3))
      · have b14 : 0 ≤ v10 ∧ v10 ≤ 0 := by omega
        refine w_t (np := 25) (l2 := [some (eR a0), some (eI (9)), none]) (s2 := [eI (0)]) rfl rfl rfl ?_
        exact b_ri rfl rfl (K (0) (by decide) (gG_e (gG_b (r := μ.1 v2) (d := 9) (show μ.1 v2 9 = 0 from (e7).trans (by omega)) (show μ.1 v2 8 = 0 from (e11).trans (by omega))) e3))
