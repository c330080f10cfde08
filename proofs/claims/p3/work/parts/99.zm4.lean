/-! methods, walked -/
theorem s_90 {L : Nat} {ρ : Nat → Int} {rc : eQ} {d : Nat} {f : eFr} {F : List eFr} {μ : eM} {g : Nat → Nat} {a0 : UInt32} (hI : SI g μ) (bA0 : FN a0) (K : ∀ (v : Int), (-2147483648 ≤ v ∧ v ≤ 2147483647) → ex_q (dt_fg L ρ) rc (d + 1, (f.1, f.2.1, f.2.2.1, eI v :: f.2.2.2), F, μ)) : ex_q (dt_fg L ρ) rc (d, (90, 0, [some (eF a0), none, none, none, none], []), f :: F, μ) := by
  refine w_t (np := 1) (l2 := [some (eF a0), none, none, none, none]) (s2 := [eF a0]) rfl rfl rfl ?_
  refine w_t (np := 2) (l2 := [some (eF a0), none, none, none, none]) (s2 := [eF FP.fconst0, eF a0]) rfl rfl rfl ?_
  obtain ⟨v1, e2, b3⟩ := d_fcmp .l a0 FP.fconst0
  refine w_t (np := 3) (l2 := [some (eF a0), none, none, none, none]) (s2 := [eI (v1)]) rfl (e2 _ _) rfl ?_
  refine b_ine (t1 := 8) (t2 := 6) rfl rfl rfl (ev_w_in (by omega) (by omega)) (fun g4 => ?_) (fun g4 => ?_)
  · refine w_t (np := 9) (l2 := [some (eF a0), none, none, none, none]) (s2 := [eF a0]) rfl rfl rfl ?_
    refine w_t (np := 10) (l2 := [some (eF a0), none, none, none, none]) (s2 := [eF FP.fconst0, eF a0]) rfl rfl rfl ?_
    obtain ⟨v5, e6, b7⟩ := d_fcmp .g a0 FP.fconst0
    refine w_t (np := 11) (l2 := [some (eF a0), none, none, none, none]) (s2 := [eI (v5)]) rfl (e6 _ _) rfl ?_
    refine b_ige (t1 := 20) (t2 := 14) rfl rfl rfl (ev_w_in (by omega) (by omega)) (fun g8 => ?_) (fun g8 => ?_)
    · have b9 : 0 ≤ v5 ∧ v5 ≤ 2147483647 := by omega
      refine w_t (np := 21) (l2 := [some (eF a0), none, none, none, none]) (s2 := [eF a0]) rfl rfl rfl ?_
      obtain ⟨v9, e10, b11⟩ := d_f2d bA0
      refine w_t (np := 22) (l2 := [some (eF a0), none, none, none, none]) (s2 := [eD v9]) rfl (e10 _ _) rfl ?_
      refine w_t (np := 23) (l2 := [some (eF a0), some (eD v9), none, none, none]) (s2 := []) rfl rfl rfl ?_
      refine w_t (np := 25) (l2 := [some (eF a0), some (eD v9), none, none, none]) (s2 := [eI (127)]) rfl rfl rfl ?_
      refine w_t (np := 26) (l2 := [some (eF a0), some (eD v9), none, some (eI (127)), none]) (s2 := []) rfl rfl rfl ?_
      refine w_t (np := 27) (l2 := [some (eF a0), some (eD v9), none, some (eI (127)), none]) (s2 := [eI (0)]) rfl rfl rfl ?_
      refine w_t (np := 29) (l2 := [some (eF a0), some (eD v9), none, some (eI (127)), some (eI (0))]) (s2 := []) rfl rfl rfl ?_
      have hL29 : ∀ (n12 : Nat) (i14 : UInt64) (i16 : Int) (i18 : Int), NN i14 → (-2147483648 ≤ i16 ∧ i16 ≤ 2147483647) → (0 ≤ i18 ∧ i18 ≤ 254) → n12 = (254 - i18).toNat → ex_q (dt_fg L ρ) rc (d, (90, 29, [some (eF a0), some (eD i14), none, some (eI (i16)), some (eI (i18))], []), f :: F, μ) := by
        intro n12
        induction n12 using Nat.strongRecOn with
        | _ n12 ih13 =>
        intro i14 i16 i18 b15 b17 b19 hn20
        refine w_t (np := 31) (l2 := [some (eF a0), some (eD i14), none, some (eI (i16)), some (eI (i18))]) (s2 := [eI (i18)]) rfl rfl rfl ?_
        refine w_t (np := 34) (l2 := [some (eF a0), some (eD i14), none, some (eI (i16)), some (eI (i18))]) (s2 := [eI (254), eI (i18)]) rfl rfl rfl ?_
        refine b_cge (t1 := 60) (t2 := 37) rfl rfl rfl (ev_w_in (by omega) (by omega)) rfl (fun g21 => ?_) (fun g21 => ?_)
        · have b22 : 254 ≤ i18 ∧ i18 ≤ 254 := by omega
          refine w_t (np := 61) (l2 := [some (eF a0), some (eD i14), none, some (eI (i16)), some (eI (i18))]) (s2 := [eI (0)]) rfl rfl rfl ?_
          refine w_t (np := 63) (l2 := [some (eF a0), some (eD i14), none, some (eI (i16)), some (eI (0))]) (s2 := []) rfl rfl rfl ?_
          have hL63 : ∀ (n22 : Nat) (i24 : UInt64) (i26 : Int) (i28 : Int), NN i24 → (-2147483648 ≤ i26 ∧ i26 ≤ 2147483647) → (0 ≤ i28 ∧ i28 ≤ 254) → n22 = (254 - i28).toNat → ex_q (dt_fg L ρ) rc (d, (90, 63, [some (eF a0), some (eD i24), none, some (eI (i26)), some (eI (i28))], []), f :: F, μ) := by
            intro n22
            induction n22 using Nat.strongRecOn with
            | _ n22 ih23 =>
            intro i24 i26 i28 b25 b27 b29 hn30
            refine w_t (np := 65) (l2 := [some (eF a0), some (eD i24), none, some (eI (i26)), some (eI (i28))]) (s2 := [eI (i28)]) rfl rfl rfl ?_
            refine w_t (np := 68) (l2 := [some (eF a0), some (eD i24), none, some (eI (i26)), some (eI (i28))]) (s2 := [eI (254), eI (i28)]) rfl rfl rfl ?_
            refine b_cge (t1 := 92) (t2 := 71) rfl rfl rfl (ev_w_in (by omega) (by omega)) rfl (fun g31 => ?_) (fun g31 => ?_)
            · have b32 : 254 ≤ i28 ∧ i28 ≤ 254 := by omega
              refine w_t (np := 93) (l2 := [some (eF a0), some (eD i24), none, some (eI (i26)), some (eI (i28))]) (s2 := [eI (i26)]) rfl rfl rfl ?_
              refine w_t (np := 95) (l2 := [some (eF a0), some (eD i24), none, some (eI (i26)), some (eI (i28))]) (s2 := [eI (23), eI (i26)]) rfl rfl rfl ?_
              obtain ⟨v32, e33, b34⟩ := h_ishl (i26) (23)
              refine w_t (np := 96) (l2 := [some (eF a0), some (eD i24), none, some (eI (i26)), some (eI (i28))]) (s2 := [eI (v32)]) rfl (e33 _ _) rfl ?_
              refine w_t (np := 97) (l2 := [some (eF a0), some (eD i24), none, some (eI (i26)), some (eI (i28))]) (s2 := [eD i24, eI (v32)]) rfl rfl rfl ?_
              refine w_t (np := 98) (l2 := [some (eF a0), some (eD i24), none, some (eI (i26)), some (eI (i28))]) (s2 := [eD FP.dconst1, eD i24, eI (v32)]) rfl rfl rfl ?_
              obtain ⟨v35, e36, b37⟩ := d_dsubN b25 DB_1 (by decide)
              refine w_t (np := 99) (l2 := [some (eF a0), some (eD i24), none, some (eI (i26)), some (eI (i28))]) (s2 := [eD v35, eI (v32)]) rfl (e36 _ _) rfl ?_
              refine v_ld (np := 102) (c := 4710765210229538816) rfl rfl rfl ?_
              have b38 : DB 1047 4710765210229538816 := by
                unfold DB
                decide
              obtain ⟨v39, e40, b41⟩ := d_dmulN b37 b38 (by decide) (by decide)
              refine w_t (np := 103) (l2 := [some (eF a0), some (eD i24), none, some (eI (i26)), some (eI (i28))]) (s2 := [eD v39, eI (v32)]) rfl (e40 _ _) rfl ?_
              obtain ⟨v42, e43, b44⟩ := d_d2i v39
              refine w_t (np := 104) (l2 := [some (eF a0), some (eD i24), none, some (eI (i26)), some (eI (i28))]) (s2 := [eI (v42), eI (v32)]) rfl (e43 _ _) rfl ?_
              obtain ⟨v45, e46, b47⟩ := h_ior (v32) (v42)
              refine w_t (np := 105) (l2 := [some (eF a0), some (eD i24), none, some (eI (i26)), some (eI (i28))]) (s2 := [eI (v45)]) rfl (e46 _ _) rfl ?_
              refine w_t (np := 107) (l2 := [some (eF a0), some (eD i24), none, some (eI (i26)), some (eI (v45))]) (s2 := []) rfl rfl rfl ?_
              refine w_t (np := 108) (l2 := [some (eF a0), some (eD i24), none, some (eI (i26)), some (eI (v45))]) (s2 := [eF a0]) rfl rfl rfl ?_
              refine w_t (np := 109) (l2 := [some (eF a0), some (eD i24), none, some (eI (i26)), some (eI (v45))]) (s2 := [eF FP.fconst0, eF a0]) rfl rfl rfl ?_
              obtain ⟨v48, e49, b50⟩ := d_fcmp .g a0 FP.fconst0
              refine w_t (np := 110) (l2 := [some (eF a0), some (eD i24), none, some (eI (i26)), some (eI (v45))]) (s2 := [eI (v48)]) rfl (e49 _ _) rfl ?_
              refine b_ige (t1 := 121) (t2 := 113) rfl rfl rfl (ev_w_in (by omega) (by omega)) (fun g51 => ?_) (fun g51 => ?_)
              · have b52 : 0 ≤ v48 ∧ v48 ≤ 2147483647 := by omega
                refine w_t (np := 123) (l2 := [some (eF a0), some (eD i24), none, some (eI (i26)), some (eI (v45))]) (s2 := [eI (v45)]) rfl rfl rfl ?_
                exact b_ri rfl rfl (K (v45) (by omega))
              · have b52 : -2147483648 ≤ v48 ∧ v48 ≤ -1 := by omega
                refine w_t (np := 115) (l2 := [some (eF a0), some (eD i24), none, some (eI (i26)), some (eI (v45))]) (s2 := [eI (v45)]) rfl rfl rfl ?_
                refine v_lc (np := 117) (c := 2147483648) rfl rfl (by decide) ?_
                rw [show zI 2147483648 = -2147483648 by decide]
                obtain ⟨v52, e53, b54⟩ := h_ior (v45) (-2147483648)
                refine w_t (np := 118) (l2 := [some (eF a0), some (eD i24), none, some (eI (i26)), some (eI (v45))]) (s2 := [eI (v52)]) rfl (e53 _ _) rfl ?_
                refine w_go (t1 := 123) rfl rfl ?_
                exact b_ri rfl rfl (K (v52) (by omega))
            · have b32 : 0 ≤ i28 ∧ i28 ≤ 253 := by omega
              refine w_t (np := 72) (l2 := [some (eF a0), some (eD i24), none, some (eI (i26)), some (eI (i28))]) (s2 := [eD i24]) rfl rfl rfl ?_
              refine w_t (np := 73) (l2 := [some (eF a0), some (eD i24), none, some (eI (i26)), some (eI (i28))]) (s2 := [eD FP.dconst1, eD i24]) rfl rfl rfl ?_
              obtain ⟨v32, e33, b34⟩ := d_dcmp .g i24 FP.dconst1
              refine w_t (np := 74) (l2 := [some (eF a0), some (eD i24), none, some (eI (i26)), some (eI (i28))]) (s2 := [eI (v32)]) rfl (e33 _ _) rfl ?_
              refine b_ige (t1 := 92) (t2 := 77) rfl rfl rfl (ev_w_in (by omega) (by omega)) (fun g35 => ?_) (fun g35 => ?_)
              · have b36 : 0 ≤ v32 ∧ v32 ≤ 2147483647 := by omega
                refine w_t (np := 93) (l2 := [some (eF a0), some (eD i24), none, some (eI (i26)), some (eI (i28))]) (s2 := [eI (i26)]) rfl rfl rfl ?_
                refine w_t (np := 95) (l2 := [some (eF a0), some (eD i24), none, some (eI (i26)), some (eI (i28))]) (s2 := [eI (23), eI (i26)]) rfl rfl rfl ?_
                obtain ⟨v36, e37, b38⟩ := h_ishl (i26) (23)
                refine w_t (np := 96) (l2 := [some (eF a0), some (eD i24), none, some (eI (i26)), some (eI (i28))]) (s2 := [eI (v36)]) rfl (e37 _ _) rfl ?_
                refine w_t (np := 97) (l2 := [some (eF a0), some (eD i24), none, some (eI (i26)), some (eI (i28))]) (s2 := [eD i24, eI (v36)]) rfl rfl rfl ?_
                refine w_t (np := 98) (l2 := [some (eF a0), some (eD i24), none, some (eI (i26)), some (eI (i28))]) (s2 := [eD FP.dconst1, eD i24, eI (v36)]) rfl rfl rfl ?_
                obtain ⟨v39, e40, b41⟩ := d_dsubN b25 DB_1 (by decide)
                refine w_t (np := 99) (l2 := [some (eF a0), some (eD i24), none, some (eI (i26)), some (eI (i28))]) (s2 := [eD v39, eI (v36)]) rfl (e40 _ _) rfl ?_
                refine v_ld (np := 102) (c := 4710765210229538816) rfl rfl rfl ?_
                have b42 : DB 1047 4710765210229538816 := by
                  unfold DB
                  decide
                obtain ⟨v43, e44, b45⟩ := d_dmulN b41 b42 (by decide) (by decide)
                refine w_t (np := 103) (l2 := [some (eF a0), some (eD i24), none, some (eI (i26)), some (eI (i28))]) (s2 := [eD v43, eI (v36)]) rfl (e44 _ _) rfl ?_
                obtain ⟨v46, e47, b48⟩ := d_d2i v43
                refine w_t (np := 104) (l2 := [some (eF a0), some (eD i24), none, some (eI (i26)), some (eI (i28))]) (s2 := [eI (v46), eI (v36)]) rfl (e47 _ _) rfl ?_
                obtain ⟨v49, e50, b51⟩ := h_ior (v36) (v46)
                refine w_t (np := 105) (l2 := [some (eF a0), some (eD i24), none, some (eI (i26)), some (eI (i28))]) (s2 := [eI (v49)]) rfl (e50 _ _) rfl ?_
                refine w_t (np := 107) (l2 := [some (eF a0), some (eD i24), none, some (eI (i26)), some (eI (v49))]) (s2 := []) rfl rfl rfl ?_
                refine w_t (np := 108) (l2 := [some (eF a0), some (eD i24), none, some (eI (i26)), some (eI (v49))]) (s2 := [eF a0]) rfl rfl rfl ?_
                refine w_t (np := 109) (l2 := [some (eF a0), some (eD i24), none, some (eI (i26)), some (eI (v49))]) (s2 := [eF FP.fconst0, eF a0]) rfl rfl rfl ?_
                obtain ⟨v52, e53, b54⟩ := d_fcmp .g a0 FP.fconst0
                refine w_t (np := 110) (l2 := [some (eF a0), some (eD i24), none, some (eI (i26)), some (eI (v49))]) (s2 := [eI (v52)]) rfl (e53 _ _) rfl ?_
                refine b_ige (t1 := 121) (t2 := 113) rfl rfl rfl (ev_w_in (by omega) (by omega)) (fun g55 => ?_) (fun g55 => ?_)
                · have b56 : 0 ≤ v52 ∧ v52 ≤ 2147483647 := by omega
                  refine w_t (np := 123) (l2 := [some (eF a0), some (eD i24), none, some (eI (i26)), some (eI (v49))]) (s2 := [eI (v49)]) rfl rfl rfl ?_
                  exact b_ri rfl rfl (K (v49) (by omega))
                · have b56 : -2147483648 ≤ v52 ∧ v52 ≤ -1 := by omega
                  refine w_t (np := 115) (l2 := [some (eF a0), some (eD i24), none, some (eI (i26)), some (eI (v49))]) (s2 := [eI (v49)]) rfl rfl rfl ?_
                  refine v_lc (np := 117) (c := 2147483648) rfl rfl (by decide) ?_
                  rw [show zI 2147483648 = -2147483648 by decide]
                  obtain ⟨v56, e57, b58⟩ := h_ior (v49) (-2147483648)
                  refine w_t (np := 118) (l2 := [some (eF a0), some (eD i24), none, some (eI (i26)), some (eI (v49))]) (s2 := [eI (v56)]) rfl (e57 _ _) rfl ?_
                  refine w_go (t1 := 123) rfl rfl ?_
                  exact b_ri rfl rfl (K (v56) (by omega))
              · have b36 : -2147483648 ≤ v32 ∧ v32 ≤ -1 := by omega
                refine w_t (np := 78) (l2 := [some (eF a0), some (eD i24), none, some (eI (i26)), some (eI (i28))]) (s2 := [eD i24]) rfl rfl rfl ?_
                refine v_ld (np := 81) (c := 4611686018427387904) rfl rfl rfl ?_
                have b36 : DB 1025 4611686018427387904 := by
                  unfold DB
                  decide
                obtain ⟨v37, e38, b39⟩ := d_dmulN b25 b36 (by decide) (by decide)
                refine w_t (np := 82) (l2 := [some (eF a0), some (eD i24), none, some (eI (i26)), some (eI (i28))]) (s2 := [eD v37]) rfl (e38 _ _) rfl ?_
                refine w_t (np := 83) (l2 := [some (eF a0), some (eD v37), none, some (eI (i26)), some (eI (i28))]) (s2 := []) rfl rfl rfl ?_
                obtain ⟨v40, e41, b42⟩ : ∃ zz : Int, ev_w ((i26) + (-1)) = zz ∧ (-2147483648 ≤ zz ∧ zz ≤ 2147483647) := ⟨_, rfl, hw_bd _⟩
                refine w_t (np := 86) (l2 := [some (eF a0), some (eD v37), none, some (eI (v40)), some (eI (i28))]) (s2 := []) rfl (b_iinc rfl e41 rfl) rfl ?_
                obtain ⟨v43, e44⟩ : ∃ zz : Int, zz = (i28) + (1) := ⟨_, rfl⟩
                have b45 : 1 ≤ v43 ∧ v43 ≤ 254 := by omega
                refine w_t (np := 89) (l2 := [some (eF a0), some (eD v37), none, some (eI (v40)), some (eI (v43))]) (s2 := []) rfl (b_iinc rfl (by rw [← e44]; exact ev_w_in (by omega) (by omega)) rfl) rfl ?_
                refine w_go (t1 := 63) rfl rfl ?_
                exact ih23 (254 - (v43)).toNat (by omega) (v37) (v40) (v43) b39 (by omega) (by omega)     rfl
          exact hL63 _ (i14) (i16) (0) b15 (by omega) (by decide)     rfl
        · have b22 : 0 ≤ i18 ∧ i18 ≤ 253 := by omega
          refine w_t (np := 38) (l2 := [some (eF a0), some (eD i14), none, some (eI (i16)), some (eI (i18))]) (s2 := [eD i14]) rfl rfl rfl ?_
          refine v_ld (np := 41) (c := 4611686018427387904) rfl rfl rfl ?_
          have b22 : DB 1025 4611686018427387904 := by
            unfold DB
            decide
          obtain ⟨v23, e24, b25⟩ := d_dcmp .l i14 4611686018427387904
          refine w_t (np := 42) (l2 := [some (eF a0), some (eD i14), none, some (eI (i16)), some (eI (i18))]) (s2 := [eI (v23)]) rfl (e24 _ _) rfl ?_
          refine b_ilt (t1 := 60) (t2 := 45) rfl rfl rfl (ev_w_in (by omega) (by omega)) (fun g26 => ?_) (fun g26 => ?_)
          · have b27 : -2147483648 ≤ v23 ∧ v23 ≤ -1 := by omega
            refine w_t (np := 61) (l2 := [some (eF a0), some (eD i14), none, some (eI (i16)), some (eI (i18))]) (s2 := [eI (0)]) rfl rfl rfl ?_
            refine w_t (np := 63) (l2 := [some (eF a0), some (eD i14), none, some (eI (i16)), some (eI (0))]) (s2 := []) rfl rfl rfl ?_
            have hL63 : ∀ (n27 : Nat) (i29 : UInt64) (i31 : Int) (i33 : Int), NN i29 → (-2147483648 ≤ i31 ∧ i31 ≤ 2147483647) → (0 ≤ i33 ∧ i33 ≤ 254) → n27 = (254 - i33).toNat → ex_q (dt_fg L ρ) rc (d, (90, 63, [some (eF a0), some (eD i29), none, some (eI (i31)), some (eI (i33))], []), f :: F, μ) := by
              intro n27
              induction n27 using Nat.strongRecOn with
              | _ n27 ih28 =>
              intro i29 i31 i33 b30 b32 b34 hn35
              refine w_t (np := 65) (l2 := [some (eF a0), some (eD i29), none, some (eI (i31)), some (eI (i33))]) (s2 := [eI (i33)]) rfl rfl rfl ?_
              refine w_t (np := 68) (l2 := [some (eF a0), some (eD i29), none, some (eI (i31)), some (eI (i33))]) (s2 := [eI (254), eI (i33)]) rfl rfl rfl ?_
              refine b_cge (t1 := 92) (t2 := 71) rfl rfl rfl (ev_w_in (by omega) (by omega)) rfl (fun g36 => ?_) (fun g36 => ?_)
              · have b37 : 254 ≤ i33 ∧ i33 ≤ 254 := by omega
                refine w_t (np := 93) (l2 := [some (eF a0), some (eD i29), none, some (eI (i31)), some (eI (i33))]) (s2 := [eI (i31)]) rfl rfl rfl ?_
                refine w_t (np := 95) (l2 := [some (eF a0), some (eD i29), none, some (eI (i31)), some (eI (i33))]) (s2 := [eI (23), eI (i31)]) rfl rfl rfl ?_
                obtain ⟨v37, e38, b39⟩ := h_ishl (i31) (23)
                refine w_t (np := 96) (l2 := [some (eF a0), some (eD i29), none, some (eI (i31)), some (eI (i33))]) (s2 := [eI (v37)]) rfl (e38 _ _) rfl ?_
                refine w_t (np := 97) (l2 := [some (eF a0), some (eD i29), none, some (eI (i31)), some (eI (i33))]) (s2 := [eD i29, eI (v37)]) rfl rfl rfl ?_
                refine w_t (np := 98) (l2 := [some (eF a0), some (eD i29), none, some (eI (i31)), some (eI (i33))]) (s2 := [eD FP.dconst1, eD i29, eI (v37)]) rfl rfl rfl ?_
                obtain ⟨v40, e41, b42⟩ := d_dsubN b30 DB_1 (by decide)
                refine w_t (np := 99) (l2 := [some (eF a0), some (eD i29), none, some (eI (i31)), some (eI (i33))]) (s2 := [eD v40, eI (v37)]) rfl (e41 _ _) rfl ?_
                refine v_ld (np := 102) (c := 4710765210229538816) rfl rfl rfl ?_
                have b43 : DB 1047 4710765210229538816 := by
                  unfold DB
                  decide
                obtain ⟨v44, e45, b46⟩ := d_dmulN b42 b43 (by decide) (by decide)
                refine w_t (np := 103) (l2 := [some (eF a0), some (eD i29), none, some (eI (i31)), some (eI (i33))]) (s2 := [eD v44, eI (v37)]) rfl (e45 _ _) rfl ?_
                obtain ⟨v47, e48, b49⟩ := d_d2i v44
                refine w_t (np := 104) (l2 := [some (eF a0), some (eD i29), none, some (eI (i31)), some (eI (i33))]) (s2 := [eI (v47), eI (v37)]) rfl (e48 _ _) rfl ?_
                obtain ⟨v50, e51, b52⟩ := h_ior (v37) (v47)
                refine w_t (np := 105) (l2 := [some (eF a0), some (eD i29), none, some (eI (i31)), some (eI (i33))]) (s2 := [eI (v50)]) rfl (e51 _ _) rfl ?_
                refine w_t (np := 107) (l2 := [some (eF a0), some (eD i29), none, some (eI (i31)), some (eI (v50))]) (s2 := []) rfl rfl rfl ?_
                refine w_t (np := 108) (l2 := [some (eF a0), some (eD i29), none, some (eI (i31)), some (eI (v50))]) (s2 := [eF a0]) rfl rfl rfl ?_
                refine w_t (np := 109) (l2 := [some (eF a0), some (eD i29), none, some (eI (i31)), some (eI (v50))]) (s2 := [eF FP.fconst0, eF a0]) rfl rfl rfl ?_
                obtain ⟨v53, e54, b55⟩ := d_fcmp .g a0 FP.fconst0
                refine w_t (np := 110) (l2 := [some (eF a0), some (eD i29), none, some (eI (i31)), some (eI (v50))]) (s2 := [eI (v53)]) rfl (e54 _ _) rfl ?_
                refine b_ige (t1 := 121) (t2 := 113) rfl rfl rfl (ev_w_in (by omega) (by omega)) (fun g56 => ?_) (fun g56 => ?_)
                · have b57 : 0 ≤ v53 ∧ v53 ≤ 2147483647 := by omega
                  refine w_t (np := 123) (l2 := [some (eF a0), some (eD i29), none, some (eI (i31)), some (eI (v50))]) (s2 := [eI (v50)]) rfl rfl rfl ?_
                  exact b_ri rfl rfl (K (v50) (by omega))
                · have b57 : -2147483648 ≤ v53 ∧ v53 ≤ -1 := by omega
                  refine w_t (np := 115) (l2 := [some (eF a0), some (eD i29), none, some (eI (i31)), some (eI (v50))]) (s2 := [eI (v50)]) rfl rfl rfl ?_
                  refine v_lc (np := 117) (c := 2147483648) rfl rfl (by decide) ?_
                  rw [show zI 2147483648 = -2147483648 by decide]
                  obtain ⟨v57, e58, b59⟩ := h_ior (v50) (-2147483648)
                  refine w_t (np := 118) (l2 := [some (eF a0), some (eD i29), none, some (eI (i31)), some (eI (v50))]) (s2 := [eI (v57)]) rfl (e58 _ _) rfl ?_
                  refine w_go (t1 := 123) rfl rfl ?_
                  exact b_ri rfl rfl (K (v57) (by omega))
              · have b37 : 0 ≤ i33 ∧ i33 ≤ 253 := by omega
                refine w_t (np := 72) (l2 := [some (eF a0), some (eD i29), none, some (eI (i31)), some (eI (i33))]) (s2 := [eD i29]) rfl rfl rfl ?_
                refine w_t (np := 73) (l2 := [some (eF a0), some (eD i29), none, some (eI (i31)), some (eI (i33))]) (s2 := [eD FP.dconst1, eD i29]) rfl rfl rfl ?_
                obtain ⟨v37, e38, b39⟩ := d_dcmp .g i29 FP.dconst1
                refine w_t (np := 74) (l2 := [some (eF a0), some (eD i29), none, some (eI (i31)), some (eI (i33))]) (s2 := [eI (v37)]) rfl (e38 _ _) rfl ?_
                refine b_ige (t1 := 92) (t2 := 77) rfl rfl rfl (ev_w_in (by omega) (by omega)) (fun g40 => ?_) (fun g40 => ?_)
                · have b41 : 0 ≤ v37 ∧ v37 ≤ 2147483647 := by omega
                  refine w_t (np := 93) (l2 := [some (eF a0), some (eD i29), none, some (eI (i31)), some (eI (i33))]) (s2 := [eI (i31)]) rfl rfl rfl ?_
                  refine w_t (np := 95) (l2 := [some (eF a0), some (eD i29), none, some (eI (i31)), some (eI (i33))]) (s2 := [eI (23), eI (i31)]) rfl rfl rfl ?_
                  obtain ⟨v41, e42, b43⟩ := h_ishl (i31) (23)
                  refine w_t (np := 96) (l2 := [some (eF a0), some (eD i29), none, some (eI (i31)), some (eI (i33))]) (s2 := [eI (v41)]) rfl (e42 _ _) rfl ?_
                  refine w_t (np := 97) (l2 := [some (eF a0), some (eD i29), none, some (eI (i31)), some (eI (i33))]) (s2 := [eD i29, eI (v41)]) rfl rfl rfl ?_
                  refine w_t (np := 98) (l2 := [some (eF a0), some (eD i29), none, some (eI (i31)), some (eI (i33))]) (s2 := [eD FP.dconst1, eD i29, eI (v41)]) rfl rfl rfl ?_
                  obtain ⟨v44, e45, b46⟩ := d_dsubN b30 DB_1 (by decide)
                  refine w_t (np := 99) (l2 := [some (eF a0), some (eD i29), none, some (eI (i31)), some (eI (i33))]) (s2 := [eD v44, eI (v41)]) rfl (e45 _ _) rfl ?_
                  refine v_ld (np := 102) (c := 4710765210229538816) rfl rfl rfl ?_
                  have b47 : DB 1047 4710765210229538816 := by
                    unfold DB
                    decide
                  obtain ⟨v48, e49, b50⟩ := d_dmulN b46 b47 (by decide) (by decide)
                  refine w_t (np := 103) (l2 := [some (eF a0), some (eD i29), none, some (eI (i31)), some (eI (i33))]) (s2 := [eD v48, eI (v41)]) rfl (e49 _ _) rfl ?_
                  obtain ⟨v51, e52, b53⟩ := d_d2i v48
                  refine w_t (np := 104) (l2 := [some (eF a0), some (eD i29), none, some (eI (i31)), some (eI (i33))]) (s2 := [eI (v51), eI (v41)]) rfl (e52 _ _) rfl ?_
                  obtain ⟨v54, e55, b56⟩ := h_ior (v41) (v51)
                  refine w_t (np := 105) (l2 := [some (eF a0), some (eD i29), none, some (eI (i31)), some (eI (i33))]) (s2 := [eI (v54)]) rfl (e55 _ _) rfl ?_
                  refine w_t (np := 107) (l2 := [some (eF a0), some (eD i29), none, some (eI (i31)), some (eI (v54))]) (s2 := []) rfl rfl rfl ?_
                  refine w_t (np := 108) (l2 := [some (eF a0), some (eD i29), none, some (eI (i31)), some (eI (v54))]) (s2 := [eF a0]) rfl rfl rfl ?_
                  refine w_t (np := 109) (l2 := [some (eF a0), some (eD i29), none, some (eI (i31)), some (eI (v54))]) (s2 := [eF FP.fconst0, eF a0]) rfl rfl rfl ?_
                  obtain ⟨v57, e58, b59⟩ := d_fcmp .g a0 FP.fconst0
                  refine w_t (np := 110) (l2 := [some (eF a0), some (eD i29), none, some (eI (i31)), some (eI (v54))]) (s2 := [eI (v57)]) rfl (e58 _ _) rfl ?_
                  refine b_ige (t1 := 121) (t2 := 113) rfl rfl rfl (ev_w_in (by omega) (by omega)) (fun g60 => ?_) (fun g60 => ?_)
                  · have b61 : 0 ≤ v57 ∧ v57 ≤ 2147483647 := by omega
                    refine w_t (np := 123) (l2 := [some (eF a0), some (eD i29), none, some (eI (i31)), some (eI (v54))]) (s2 := [eI (v54)]) rfl rfl rfl ?_
                    exact b_ri rfl rfl (K (v54) (by omega))
                  · have b61 : -2147483648 ≤ v57 ∧ v57 ≤ -1 := by omega
                    refine w_t (np := 115) (l2 := [some (eF a0), some (eD i29), none, some (eI (i31)), some (eI (v54))]) (s2 := [eI (v54)]) rfl rfl rfl ?_
                    refine v_lc (np := 117) (c := 2147483648) rfl rfl (by decide) ?_
                    rw [show zI 2147483648 = -2147483648 by decide]
                    obtain ⟨v61, e62, b63⟩ := h_ior (v54) (-2147483648)
                    refine w_t (np := 118) (l2 := [some (eF a0), some (eD i29), none, some (eI (i31)), some (eI (v54))]) (s2 := [eI (v61)]) rfl (e62 _ _) rfl ?_
                    refine w_go (t1 := 123) rfl rfl ?_
                    exact b_ri rfl rfl (K (v61) (by omega))
                · have b41 : -2147483648 ≤ v37 ∧ v37 ≤ -1 := by omega
                  refine w_t (np := 78) (l2 := [some (eF a0), some (eD i29), none, some (eI (i31)), some (eI (i33))]) (s2 := [eD i29]) rfl rfl rfl ?_
                  refine v_ld (np := 81) (c := 4611686018427387904) rfl rfl rfl ?_
                  have b41 : DB 1025 4611686018427387904 := by
                    unfold DB
                    decide
                  obtain ⟨v42, e43, b44⟩ := d_dmulN b30 b41 (by decide) (by decide)
                  refine w_t (np := 82) (l2 := [some (eF a0), some (eD i29), none, some (eI (i31)), some (eI (i33))]) (s2 := [eD v42]) rfl (e43 _ _) rfl ?_
                  refine w_t (np := 83) (l2 := [some (eF a0), some (eD v42), none, some (eI (i31)), some (eI (i33))]) (s2 := []) rfl rfl rfl ?_
                  obtain ⟨v45, e46, b47⟩ : ∃ zz : Int, ev_w ((i31) + (-1)) = zz ∧ (-2147483648 ≤ zz ∧ zz ≤ 2147483647) := ⟨_, rfl, hw_bd _⟩
                  refine w_t (np := 86) (l2 := [some (eF a0), some (eD v42), none, some (eI (v45)), some (eI (i33))]) (s2 := []) rfl (b_iinc rfl e46 rfl) rfl ?_
                  obtain ⟨v48, e49⟩ : ∃ zz : Int, zz = (i33) + (1) := ⟨_, rfl⟩
                  have b50 : 1 ≤ v48 ∧ v48 ≤ 254 := by omega
                  refine w_t (np := 89) (l2 := [some (eF a0), some (eD v42), none, some (eI (v45)), some (eI (v48))]) (s2 := []) rfl (b_iinc rfl (by rw [← e49]; exact ev_w_in (by omega) (by omega)) rfl) rfl ?_
                  refine w_go (t1 := 63) rfl rfl ?_
                  exact ih28 (254 - (v48)).toNat (by omega) (v42) (v45) (v48) b44 (by omega) (by omega)     rfl
            exact hL63 _ (i14) (i16) (0) b15 (by omega) (by decide)     rfl
          · have b27 : 0 ≤ v23 ∧ v23 ≤ 2147483647 := by omega
            refine w_t (np := 46) (l2 := [some (eF a0), some (eD i14), none, some (eI (i16)), some (eI (i18))]) (s2 := [eD i14]) rfl rfl rfl ?_
            refine v_ld (np := 49) (c := 4611686018427387904) rfl rfl rfl ?_
            have b27 : DB 1025 4611686018427387904 := by
              unfold DB
              decide
            obtain ⟨v28, e29, b30⟩ := d_ddivN b15 b27 (by decide) (by decide)
            refine w_t (np := 50) (l2 := [some (eF a0), some (eD i14), none, some (eI (i16)), some (eI (i18))]) (s2 := [eD v28]) rfl (e29 _ _) rfl ?_
            refine w_t (np := 51) (l2 := [some (eF a0), some (eD v28), none, some (eI (i16)), some (eI (i18))]) (s2 := []) rfl rfl rfl ?_
            obtain ⟨v31, e32, b33⟩ : ∃ zz : Int, ev_w ((i16) + (1)) = zz ∧ (-2147483648 ≤ zz ∧ zz ≤ 2147483647) := ⟨_, rfl, hw_bd _⟩
            refine w_t (np := 54) (l2 := [some (eF a0), some (eD v28), none, some (eI (v31)), some (eI (i18))]) (s2 := []) rfl (b_iinc rfl e32 rfl) rfl ?_
            obtain ⟨v34, e35⟩ : ∃ zz : Int, zz = (i18) + (1) := ⟨_, rfl⟩
            have b36 : 1 ≤ v34 ∧ v34 ≤ 254 := by omega
            refine w_t (np := 57) (l2 := [some (eF a0), some (eD v28), none, some (eI (v31)), some (eI (v34))]) (s2 := []) rfl (b_iinc rfl (by rw [← e35]; exact ev_w_in (by omega) (by omega)) rfl) rfl ?_
            refine w_go (t1 := 29) rfl rfl ?_
            exact ih13 (254 - (v34)).toNat (by omega) (v28) (v31) (v34) b30 (by omega) (by omega)     rfl
      exact hL29 _ (v9) (127) (0) b11 (by decide) (by decide)     rfl
    · have b9 : -2147483648 ≤ v5 ∧ v5 ≤ -1 := by omega
      refine w_t (np := 15) (l2 := [some (eF a0), none, none, none, none]) (s2 := [eF a0]) rfl rfl rfl ?_
      obtain ⟨v9, e10, b11⟩ := d_fneg bA0
      refine w_t (np := 16) (l2 := [some (eF a0), none, none, none, none]) (s2 := [eF v9]) rfl (e10 _ _) rfl ?_
      obtain ⟨v12, e13, b14⟩ := d_f2d b11
      refine w_t (np := 17) (l2 := [some (eF a0), none, none, none, none]) (s2 := [eD v12]) rfl (e13 _ _) rfl ?_
      refine w_go (t1 := 22) rfl rfl ?_
      refine w_t (np := 23) (l2 := [some (eF a0), some (eD v12), none, none, none]) (s2 := []) rfl rfl rfl ?_
      refine w_t (np := 25) (l2 := [some (eF a0), some (eD v12), none, none, none]) (s2 := [eI (127)]) rfl rfl rfl ?_
      refine w_t (np := 26) (l2 := [some (eF a0), some (eD v12), none, some (eI (127)), none]) (s2 := []) rfl rfl rfl ?_
      refine w_t (np := 27) (l2 := [some (eF a0), some (eD v12), none, some (eI (127)), none]) (s2 := [eI (0)]) rfl rfl rfl ?_
      refine w_t (np := 29) (l2 := [some (eF a0), some (eD v12), none, some (eI (127)), some (eI (0))]) (s2 := []) rfl rfl rfl ?_
      have hL29 : ∀ (n15 : Nat) (i17 : UInt64) (i19 : Int) (i21 : Int), NN i17 → (-2147483648 ≤ i19 ∧ i19 ≤ 2147483647) → (0 ≤ i21 ∧ i21 ≤ 254) → n15 = (254 - i21).toNat → ex_q (dt_fg L ρ) rc (d, (90, 29, [some (eF a0), some (eD i17), none, some (eI (i19)), some (eI (i21))], []), f :: F, μ) := by
        intro n15
        induction n15 using Nat.strongRecOn with
        | _ n15 ih16 =>
        intro i17 i19 i21 b18 b20 b22 hn23
        refine w_t (np := 31) (l2 := [some (eF a0), some (eD i17), none, some (eI (i19)), some (eI (i21))]) (s2 := [eI (i21)]) rfl rfl rfl ?_
        refine w_t (np := 34) (l2 := [some (eF a0), some (eD i17), none, some (eI (i19)), some (eI (i21))]) (s2 := [eI (254), eI (i21)]) rfl rfl rfl ?_
        refine b_cge (t1 := 60) (t2 := 37) rfl rfl rfl (ev_w_in (by omega) (by omega)) rfl (fun g24 => ?_) (fun g24 => ?_)
        · have b25 : 254 ≤ i21 ∧ i21 ≤ 254 := by omega
          refine w_t (np := 61) (l2 := [some (eF a0), some (eD i17), none, some (eI (i19)), some (eI (i21))]) (s2 := [eI (0)]) rfl rfl rfl ?_
          refine w_t (np := 63) (l2 := [some (eF a0), some (eD i17), none, some (eI (i19)), some (eI (0))]) (s2 := []) rfl rfl rfl ?_
          have hL63 : ∀ (n25 : Nat) (i27 : UInt64) (i29 : Int) (i31 : Int), NN i27 → (-2147483648 ≤ i29 ∧ i29 ≤ 2147483647) → (0 ≤ i31 ∧ i31 ≤ 254) → n25 = (254 - i31).toNat → ex_q (dt_fg L ρ) rc (d, (90, 63, [some (eF a0), some (eD i27), none, some (eI (i29)), some (eI (i31))], []), f :: F, μ) := by
            intro n25
            induction n25 using Nat.strongRecOn with
            | _ n25 ih26 =>
            intro i27 i29 i31 b28 b30 b32 hn33
            refine w_t (np := 65) (l2 := [some (eF a0), some (eD i27), none, some (eI (i29)), some (eI (i31))]) (s2 := [eI (i31)]) rfl rfl rfl ?_
            refine w_t (np := 68) (l2 := [some (eF a0), some (eD i27), none, some (eI (i29)), some (eI (i31))]) (s2 := [eI (254), eI (i31)]) rfl rfl rfl ?_
            refine b_cge (t1 := 92) (t2 := 71) rfl rfl rfl (ev_w_in (by omega) (by omega)) rfl (fun g34 => ?_) (fun g34 => ?_)
            · have b35 : 254 ≤ i31 ∧ i31 ≤ 254 := by omega
              refine w_t (np := 93) (l2 := [some (eF a0), some (eD i27), none, some (eI (i29)), some (eI (i31))]) (s2 := [eI (i29)]) rfl rfl rfl ?_
              refine w_t (np := 95) (l2 := [some (eF a0), some (eD i27), none, some (eI (i29)), some (eI (i31))]) (s2 := [eI (23), eI (i29)]) rfl rfl rfl ?_
              obtain ⟨v35, e36, b37⟩ := h_ishl (i29) (23)
              refine w_t (np := 96) (l2 := [some (eF a0), some (eD i27), none, some (eI (i29)), some (eI (i31))]) (s2 := [eI (v35)]) rfl (e36 _ _) rfl ?_
              refine w_t (np := 97) (l2 := [some (eF a0), some (eD i27), none, some (eI (i29)), some (eI (i31))]) (s2 := [eD i27, eI (v35)]) rfl rfl rfl ?_
              refine w_t (np := 98) (l2 := [some (eF a0), some (eD i27), none, some (eI (i29)), some (eI (i31))]) (s2 := [eD FP.dconst1, eD i27, eI (v35)]) rfl rfl rfl ?_
              obtain ⟨v38, e39, b40⟩ := d_dsubN b28 DB_1 (by decide)
              refine w_t (np := 99) (l2 := [some (eF a0), some (eD i27), none, some (eI (i29)), some (eI (i31))]) (s2 := [eD v38, eI (v35)]) rfl (e39 _ _) rfl ?_
              refine v_ld (np := 102) (c := 4710765210229538816) rfl rfl rfl ?_
              have b41 : DB 1047 4710765210229538816 := by
                unfold DB
                decide
              obtain ⟨v42, e43, b44⟩ := d_dmulN b40 b41 (by decide) (by decide)
              refine w_t (np := 103) (l2 := [some (eF a0), some (eD i27), none, some (eI (i29)), some (eI (i31))]) (s2 := [eD v42, eI (v35)]) rfl (e43 _ _) rfl ?_
              obtain ⟨v45, e46, b47⟩ := d_d2i v42
              refine w_t (np := 104) (l2 := [some (eF a0), some (eD i27), none, some (eI (i29)), some (eI (i31))]) (s2 := [eI (v45), eI (v35)]) rfl (e46 _ _) rfl ?_
              obtain ⟨v48, e49, b50⟩ := h_ior (v35) (v45)
              refine w_t (np := 105) (l2 := [some (eF a0), some (eD i27), none, some (eI (i29)), some (eI (i31))]) (s2 := [eI (v48)]) rfl (e49 _ _) rfl ?_
              refine w_t (np := 107) (l2 := [some (eF a0), some (eD i27), none, some (eI (i29)), some (eI (v48))]) (s2 := []) rfl rfl rfl ?_
              refine w_t (np := 108) (l2 := [some (eF a0), some (eD i27), none, some (eI (i29)), some (eI (v48))]) (s2 := [eF a0]) rfl rfl rfl ?_
              refine w_t (np := 109) (l2 := [some (eF a0), some (eD i27), none, some (eI (i29)), some (eI (v48))]) (s2 := [eF FP.fconst0, eF a0]) rfl rfl rfl ?_
              obtain ⟨v51, e52, b53⟩ := d_fcmp .g a0 FP.fconst0
              refine w_t (np := 110) (l2 := [some (eF a0), some (eD i27), none, some (eI (i29)), some (eI (v48))]) (s2 := [eI (v51)]) rfl (e52 _ _) rfl ?_
              refine b_ige (t1 := 121) (t2 := 113) rfl rfl rfl (ev_w_in (by omega) (by omega)) (fun g54 => ?_) (fun g54 => ?_)
              · have b55 : 0 ≤ v51 ∧ v51 ≤ 2147483647 := by omega
                refine w_t (np := 123) (l2 := [some (eF a0), some (eD i27), none, some (eI (i29)), some (eI (v48))]) (s2 := [eI (v48)]) rfl rfl rfl ?_
                exact b_ri rfl rfl (K (v48) (by omega))
              · have b55 : -2147483648 ≤ v51 ∧ v51 ≤ -1 := by omega
                refine w_t (np := 115) (l2 := [some (eF a0), some (eD i27), none, some (eI (i29)), some (eI (v48))]) (s2 := [eI (v48)]) rfl rfl rfl ?_
                refine v_lc (np := 117) (c := 2147483648) rfl rfl (by decide) ?_
                rw [show zI 2147483648 = -2147483648 by decide]
                obtain ⟨v55, e56, b57⟩ := h_ior (v48) (-2147483648)
                refine w_t (np := 118) (l2 := [some (eF a0), some (eD i27), none, some (eI (i29)), some (eI (v48))]) (s2 := [eI (v55)]) rfl (e56 _ _) rfl ?_
                refine w_go (t1 := 123) rfl rfl ?_
                exact b_ri rfl rfl (K (v55) (by omega))
            · have b35 : 0 ≤ i31 ∧ i31 ≤ 253 := by omega
              refine w_t (np := 72) (l2 := [some (eF a0), some (eD i27), none, some (eI (i29)), some (eI (i31))]) (s2 := [eD i27]) rfl rfl rfl ?_
              refine w_t (np := 73) (l2 := [some (eF a0), some (eD i27), none, some (eI (i29)), some (eI (i31))]) (s2 := [eD FP.dconst1, eD i27]) rfl rfl rfl ?_
              obtain ⟨v35, e36, b37⟩ := d_dcmp .g i27 FP.dconst1
              refine w_t (np := 74) (l2 := [some (eF a0), some (eD i27), none, some (eI (i29)), some (eI (i31))]) (s2 := [eI (v35)]) rfl (e36 _ _) rfl ?_
              refine b_ige (t1 := 92) (t2 := 77) rfl rfl rfl (ev_w_in (by omega) (by omega)) (fun g38 => ?_) (fun g38 => ?_)
              · have b39 : 0 ≤ v35 ∧ v35 ≤ 2147483647 := by omega
                refine w_t (np := 93) (l2 := [some (eF a0), some (eD i27), none, some (eI (i29)), some (eI (i31))]) (s2 := [eI (i29)]) rfl rfl rfl ?_
                refine w_t (np := 95) (l2 := [some (eF a0), some (eD i27), none, some (eI (i29)), some (eI (i31))]) (s2 := [eI (23), eI (i29)]) rfl rfl rfl ?_
                obtain ⟨v39, e40, b41⟩ := h_ishl (i29) (23)
                refine w_t (np := 96) (l2 := [some (eF a0), some (eD i27), none, some (eI (i29)), some (eI (i31))]) (s2 := [eI (v39)]) rfl (e40 _ _) rfl ?_
                refine w_t (np := 97) (l2 := [some (eF a0), some (eD i27), none, some (eI (i29)), some (eI (i31))]) (s2 := [eD i27, eI (v39)]) rfl rfl rfl ?_
                refine w_t (np := 98) (l2 := [some (eF a0), some (eD i27), none, some (eI (i29)), some (eI (i31))]) (s2 := [eD FP.dconst1, eD i27, eI (v39)]) rfl rfl rfl ?_
                obtain ⟨v42, e43, b44⟩ := d_dsubN b28 DB_1 (by decide)
                refine w_t (np := 99) (l2 := [some (eF a0), some (eD i27), none, some (eI (i29)), some (eI (i31))]) (s2 := [eD v42, eI (v39)]) rfl (e43 _ _) rfl ?_
                refine v_ld (np := 102) (c := 4710765210229538816) rfl rfl rfl ?_
                have b45 : DB 1047 4710765210229538816 := by
                  unfold DB
                  decide
                obtain ⟨v46, e47, b48⟩ := d_dmulN b44 b45 (by decide) (by decide)
                refine w_t (np := 103) (l2 := [some (eF a0), some (eD i27), none, some (eI (i29)), some (eI (i31))]) (s2 := [eD v46, eI (v39)]) rfl (e47 _ _) rfl ?_
                obtain ⟨v49, e50, b51⟩ := d_d2i v46
                refine w_t (np := 104) (l2 := [some (eF a0), some (eD i27), none, some (eI (i29)), some (eI (i31))]) (s2 := [eI (v49), eI (v39)]) rfl (e50 _ _) rfl ?_
                obtain ⟨v52, e53, b54⟩ := h_ior (v39) (v49)
                refine w_t (np := 105) (l2 := [some (eF a0), some (eD i27), none, some (eI (i29)), some (eI (i31))]) (s2 := [eI (v52)]) rfl (e53 _ _) rfl ?_
                refine w_t (np := 107) (l2 := [some (eF a0), some (eD i27), none, some (eI (i29)), some (eI (v52))]) (s2 := []) rfl rfl rfl ?_
                refine w_t (np := 108) (l2 := [some (eF a0), some (eD i27), none, some (eI (i29)), some (eI (v52))]) (s2 := [eF a0]) rfl rfl rfl ?_
                refine w_t (np := 109) (l2 := [some (eF a0), some (eD i27), none, some (eI (i29)), some (eI (v52))]) (s2 := [eF FP.fconst0, eF a0]) rfl rfl rfl ?_
                obtain ⟨v55, e56, b57⟩ := d_fcmp .g a0 FP.fconst0
                refine w_t (np := 110) (l2 := [some (eF a0), some (eD i27), none, some (eI (i29)), some (eI (v52))]) (s2 := [eI (v55)]) rfl (e56 _ _) rfl ?_
                refine b_ige (t1 := 121) (t2 := 113) rfl rfl rfl (ev_w_in (by omega) (by omega)) (fun g58 => ?_) (fun g58 => ?_)
                · have b59 : 0 ≤ v55 ∧ v55 ≤ 2147483647 := by omega
                  refine w_t (np := 123) (l2 := [some (eF a0), some (eD i27), none, some (eI (i29)), some (eI (v52))]) (s2 := [eI (v52)]) rfl rfl rfl ?_
                  exact b_ri rfl rfl (K (v52) (by omega))
                · have b59 : -2147483648 ≤ v55 ∧ v55 ≤ -1 := by omega
                  refine w_t (np := 115) (l2 := [some (eF a0), some (eD i27), none, some (eI (i29)), some (eI (v52))]) (s2 := [eI (v52)]) rfl rfl rfl ?_
                  refine v_lc (np := 117) (c := 2147483648) rfl rfl (by decide) ?_
                  rw [show zI 2147483648 = -2147483648 by decide]
                  obtain ⟨v59, e60, b61⟩ := h_ior (v52) (-2147483648)
                  refine w_t (np := 118) (l2 := [some (eF a0), some (eD i27), none, some (eI (i29)), some (eI (v52))]) (s2 := [eI (v59)]) rfl (e60 _ _) rfl ?_
                  refine w_go (t1 := 123) rfl rfl ?_
                  exact b_ri rfl rfl (K (v59) (by omega))
              · have b39 : -2147483648 ≤ v35 ∧ v35 ≤ -1 := by omega
                refine w_t (np := 78) (l2 := [some (eF a0), some (eD i27), none, some (eI (i29)), some (eI (i31))]) (s2 := [eD i27]) rfl rfl rfl ?_
                refine v_ld (np := 81) (c := 4611686018427387904) rfl rfl rfl ?_
                have b39 : DB 1025 4611686018427387904 := by
                  unfold DB
                  decide
                obtain ⟨v40, e41, b42⟩ := d_dmulN b28 b39 (by decide) (by decide)
                refine w_t (np := 82) (l2 := [some (eF a0), some (eD i27), none, some (eI (i29)), some (eI (i31))]) (s2 := [eD v40]) rfl (e41 _ _) rfl ?_
                refine w_t (np := 83) (l2 := [some (eF a0), some (eD v40), none, some (eI (i29)), some (eI (i31))]) (s2 := []) rfl rfl rfl ?_
                obtain ⟨v43, e44, b45⟩ : ∃ zz : Int, ev_w ((i29) + (-1)) = zz ∧ (-2147483648 ≤ zz ∧ zz ≤ 2147483647) := ⟨_, rfl, hw_bd _⟩
                refine w_t (np := 86) (l2 := [some (eF a0), some (eD v40), none, some (eI (v43)), some (eI (i31))]) (s2 := []) rfl (b_iinc rfl e44 rfl) rfl ?_
                obtain ⟨v46, e47⟩ : ∃ zz : Int, zz = (i31) + (1) := ⟨_, rfl⟩
                have b48 : 1 ≤ v46 ∧ v46 ≤ 254 := by omega
                refine w_t (np := 89) (l2 := [some (eF a0), some (eD v40), none, some (eI (v43)), some (eI (v46))]) (s2 := []) rfl (b_iinc rfl (by rw [← e47]; exact ev_w_in (by omega) (by omega)) rfl) rfl ?_
                refine w_go (t1 := 63) rfl rfl ?_
                exact ih26 (254 - (v46)).toNat (by omega) (v40) (v43) (v46) b42 (by omega) (by omega)     rfl
          exact hL63 _ (i17) (i19) (0) b18 (by omega) (by decide)     rfl
        · have b25 : 0 ≤ i21 ∧ i21 ≤ 253 := by omega
          refine w_t (np := 38) (l2 := [some (eF a0), some (eD i17), none, some (eI (i19)), some (eI (i21))]) (s2 := [eD i17]) rfl rfl rfl ?_
          refine v_ld (np := 41) (c := 4611686018427387904) rfl rfl rfl ?_
          have b25 : DB 1025 4611686018427387904 := by
            unfold DB
            decide
          obtain ⟨v26, e27, b28⟩ := d_dcmp .l i17 4611686018427387904
          refine w_t (np := 42) (l2 := [some (eF a0), some (eD i17), none, some (eI (i19)), some (eI (i21))]) (s2 := [eI (v26)]) rfl (e27 _ _) rfl ?_
          refine b_ilt (t1 := 60) (t2 := 45) rfl rfl rfl (ev_w_in (by omega) (by omega)) (fun g29 => ?_) (fun g29 => ?_)
          · have b30 : -2147483648 ≤ v26 ∧ v26 ≤ -1 := by omega
            refine w_t (np := 61) (l2 := [some (eF a0), some (eD i17), none, some (eI (i19)), some (eI (i21))]) (s2 := [eI (0)]) rfl rfl rfl ?_
            refine w_t (np := 63) (l2 := [some (eF a0), some (eD i17), none, some (eI (i19)), some (eI (0))]) (s2 := []) rfl rfl rfl ?_
            have hL63 : ∀ (n30 : Nat) (i32 : UInt64) (i34 : Int) (i36 : Int), NN i32 → (-2147483648 ≤ i34 ∧ i34 ≤ 2147483647) → (0 ≤ i36 ∧ i36 ≤ 254) → n30 = (254 - i36).toNat → ex_q (dt_fg L ρ) rc (d, (90, 63, [some (eF a0), some (eD i32), none, some (eI (i34)), some (eI (i36))], []), f :: F, μ) := by
              intro n30
              induction n30 using Nat.strongRecOn with
              | _ n30 ih31 =>
              intro i32 i34 i36 b33 b35 b37 hn38
              refine w_t (np := 65) (l2 := [some (eF a0), some (eD i32), none, some (eI (i34)), some (eI (i36))]) (s2 := [eI (i36)]) rfl rfl rfl ?_
              refine w_t (np := 68) (l2 := [some (eF a0), some (eD i32), none, some (eI (i34)), some (eI (i36))]) (s2 := [eI (254), eI (i36)]) rfl rfl rfl ?_
              refine b_cge (t1 := 92) (t2 := 71) rfl rfl rfl (ev_w_in (by omega) (by omega)) rfl (fun g39 => ?_) (fun g39 => ?_)
              · have b40 : 254 ≤ i36 ∧ i36 ≤ 254 := by omega
                refine w_t (np := 93) (l2 := [some (eF a0), some (eD i32), none, some (eI (i34)), some (eI (i36))]) (s2 := [eI (i34)]) rfl rfl rfl ?_
                refine w_t (np := 95) (l2 := [some (eF a0), some (eD i32), none, some (eI (i34)), some (eI (i36))]) (s2 := [eI (23), eI (i34)]) rfl rfl rfl ?_
                obtain ⟨v40, e41, b42⟩ := h_ishl (i34) (23)
                refine w_t (np := 96) (l2 := [some (eF a0), some (eD i32), none, some (eI (i34)), some (eI (i36))]) (s2 := [eI (v40)]) rfl (e41 _ _) rfl ?_
                refine w_t (np := 97) (l2 := [some (eF a0), some (eD i32), none, some (eI (i34)), some (eI (i36))]) (s2 := [eD i32, eI (v40)]) rfl rfl rfl ?_
                refine w_t (np := 98) (l2 := [some (eF a0), some (eD i32), none, some (eI (i34)), some (eI (i36))]) (s2 := [eD FP.dconst1, eD i32, eI (v40)]) rfl rfl rfl ?_
                obtain ⟨v43, e44, b45⟩ := d_dsubN b33 DB_1 (by decide)
                refine w_t (np := 99) (l2 := [some (eF a0), some (eD i32), none, some (eI (i34)), some (eI (i36))]) (s2 := [eD v43, eI (v40)]) rfl (e44 _ _) rfl ?_
                refine v_ld (np := 102) (c := 4710765210229538816) rfl rfl rfl ?_
                have b46 : DB 1047 4710765210229538816 := by
                  unfold DB
                  decide
                obtain ⟨v47, e48, b49⟩ := d_dmulN b45 b46 (by decide) (by decide)
                refine w_t (np := 103) (l2 := [some (eF a0), some (eD i32), none, some (eI (i34)), some (eI (i36))]) (s2 := [eD v47, eI (v40)]) rfl (e48 _ _) rfl ?_
                obtain ⟨v50, e51, b52⟩ := d_d2i v47
                refine w_t (np := 104) (l2 := [some (eF a0), some (eD i32), none, some (eI (i34)), some (eI (i36))]) (s2 := [eI (v50), eI (v40)]) rfl (e51 _ _) rfl ?_
                obtain ⟨v53, e54, b55⟩ := h_ior (v40) (v50)
                refine w_t (np := 105) (l2 := [some (eF a0), some (eD i32), none, some (eI (i34)), some (eI (i36))]) (s2 := [eI (v53)]) rfl (e54 _ _) rfl ?_
                refine w_t (np := 107) (l2 := [some (eF a0), some (eD i32), none, some (eI (i34)), some (eI (v53))]) (s2 := []) rfl rfl rfl ?_
                refine w_t (np := 108) (l2 := [some (eF a0), some (eD i32), none, some (eI (i34)), some (eI (v53))]) (s2 := [eF a0]) rfl rfl rfl ?_
                refine w_t (np := 109) (l2 := [some (eF a0), some (eD i32), none, some (eI (i34)), some (eI (v53))]) (s2 := [eF FP.fconst0, eF a0]) rfl rfl rfl ?_
                obtain ⟨v56, e57, b58⟩ := d_fcmp .g a0 FP.fconst0
                refine w_t (np := 110) (l2 := [some (eF a0), some (eD i32), none, some (eI (i34)), some (eI (v53))]) (s2 := [eI (v56)]) rfl (e57 _ _) rfl ?_
                refine b_ige (t1 := 121) (t2 := 113) rfl rfl rfl (ev_w_in (by omega) (by omega)) (fun g59 => ?_) (fun g59 => ?_)
                · have b60 : 0 ≤ v56 ∧ v56 ≤ 2147483647 := by omega
                  refine w_t (np := 123) (l2 := [some (eF a0), some (eD i32), none, some (eI (i34)), some (eI (v53))]) (s2 := [eI (v53)]) rfl rfl rfl ?_
                  exact b_ri rfl rfl (K (v53) (by omega))
                · have b60 : -2147483648 ≤ v56 ∧ v56 ≤ -1 := by omega
                  refine w_t (np := 115) (l2 := [some (eF a0), some (eD i32), none, some (eI (i34)), some (eI (v53))]) (s2 := [eI (v53)]) rfl rfl rfl ?_
                  refine v_lc (np := 117) (c := 2147483648) rfl rfl (by decide) ?_
                  rw [show zI 2147483648 = -2147483648 by decide]
                  obtain ⟨v60, e61, b62⟩ := h_ior (v53) (-2147483648)
                  refine w_t (np := 118) (l2 := [some (eF a0), some (eD i32), none, some (eI (i34)), some (eI (v53))]) (s2 := [eI (v60)]) rfl (e61 _ _) rfl ?_
                  refine w_go (t1 := 123) rfl rfl ?_
                  exact b_ri rfl rfl (K (v60) (by omega))
              · have b40 : 0 ≤ i36 ∧ i36 ≤ 253 := by omega
                refine w_t (np := 72) (l2 := [some (eF a0), some (eD i32), none, some (eI (i34)), some (eI (i36))]) (s2 := [eD i32]) rfl rfl rfl ?_
                refine w_t (np := 73) (l2 := [some (eF a0), some (eD i32), none, some (eI (i34)), some (eI (i36))]) (s2 := [eD FP.dconst1, eD i32]) rfl rfl rfl ?_
                obtain ⟨v40, e41, b42⟩ := d_dcmp .g i32 FP.dconst1
                refine w_t (np := 74) (l2 := [some (eF a0), some (eD i32), none, some (eI (i34)), some (eI (i36))]) (s2 := [eI (v40)]) rfl (e41 _ _) rfl ?_
                refine b_ige (t1 := 92) (t2 := 77) rfl rfl rfl (ev_w_in (by omega) (by omega)) (fun g43 => ?_) (fun g43 => ?_)
                · have b44 : 0 ≤ v40 ∧ v40 ≤ 2147483647 := by omega
                  refine w_t (np := 93) (l2 := [some (eF a0), some (eD i32), none, some (eI (i34)), some (eI (i36))]) (s2 := [eI (i34)]) rfl rfl rfl ?_
                  refine w_t (np := 95) (l2 := [some (eF a0), some (eD i32), none, some (eI (i34)), some (eI (i36))]) (s2 := [eI (23), eI (i34)]) rfl rfl rfl ?_
                  obtain ⟨v44, e45, b46⟩ := h_ishl (i34) (23)
                  refine w_t (np := 96) (l2 := [some (eF a0), some (eD i32), none, some (eI (i34)), some (eI (i36))]) (s2 := [eI (v44)]) rfl (e45 _ _) rfl ?_
                  refine w_t (np := 97) (l2 := [some (eF a0), some (eD i32), none, some (eI (i34)), some (eI (i36))]) (s2 := [eD i32, eI (v44)]) rfl rfl rfl ?_
                  refine w_t (np := 98) (l2 := [some (eF a0), some (eD i32), none, some (eI (i34)), some (eI (i36))]) (s2 := [eD FP.dconst1, eD i32, eI (v44)]) rfl rfl rfl ?_
                  obtain ⟨v47, e48, b49⟩ := d_dsubN b33 DB_1 (by decide)
                  refine w_t (np := 99) (l2 := [some (eF a0), some (eD i32), none, some (eI (i34)), some (eI (i36))]) (s2 := [eD v47, eI (v44)]) rfl (e48 _ _) rfl ?_
                  refine v_ld (np := 102) (c := 4710765210229538816) rfl rfl rfl ?_
                  have b50 : DB 1047 4710765210229538816 := by
                    unfold DB
                    decide
                  obtain ⟨v51, e52, b53⟩ := d_dmulN b49 b50 (by decide) (by decide)
                  refine w_t (np := 103) (l2 := [some (eF a0), some (eD i32), none, some (eI (i34)), some (eI (i36))]) (s2 := [eD v51, eI (v44)]) rfl (e52 _ _) rfl ?_
                  obtain ⟨v54, e55, b56⟩ := d_d2i v51
                  refine w_t (np := 104) (l2 := [some (eF a0), some (eD i32), none, some (eI (i34)), some (eI (i36))]) (s2 := [eI (v54), eI (v44)]) rfl (e55 _ _) rfl ?_
                  obtain ⟨v57, e58, b59⟩ := h_ior (v44) (v54)
                  refine w_t (np := 105) (l2 := [some (eF a0), some (eD i32), none, some (eI (i34)), some (eI (i36))]) (s2 := [eI (v57)]) rfl (e58 _ _) rfl ?_
                  refine w_t (np := 107) (l2 := [some (eF a0), some (eD i32), none, some (eI (i34)), some (eI (v57))]) (s2 := []) rfl rfl rfl ?_
                  refine w_t (np := 108) (l2 := [some (eF a0), some (eD i32), none, some (eI (i34)), some (eI (v57))]) (s2 := [eF a0]) rfl rfl rfl ?_
                  refine w_t (np := 109) (l2 := [some (eF a0), some (eD i32), none, some (eI (i34)), some (eI (v57))]) (s2 := [eF FP.fconst0, eF a0]) rfl rfl rfl ?_
                  obtain ⟨v60, e61, b62⟩ := d_fcmp .g a0 FP.fconst0
                  refine w_t (np := 110) (l2 := [some (eF a0), some (eD i32), none, some (eI (i34)), some (eI (v57))]) (s2 := [eI (v60)]) rfl (e61 _ _) rfl ?_
                  refine b_ige (t1 := 121) (t2 := 113) rfl rfl rfl (ev_w_in (by omega) (by omega)) (fun g63 => ?_) (fun g63 => ?_)
                  · have b64 : 0 ≤ v60 ∧ v60 ≤ 2147483647 := by omega
                    refine w_t (np := 123) (l2 := [some (eF a0), some (eD i32), none, some (eI (i34)), some (eI (v57))]) (s2 := [eI (v57)]) rfl rfl rfl ?_
                    exact b_ri rfl rfl (K (v57) (by omega))
                  · have b64 : -2147483648 ≤ v60 ∧ v60 ≤ -1 := by omega
                    refine w_t (np := 115) (l2 := [some (eF a0), some (eD i32), none, some (eI (i34)), some (eI (v57))]) (s2 := [eI (v57)]) rfl rfl rfl ?_
                    refine v_lc (np := 117) (c := 2147483648) rfl rfl (by decide) ?_
                    rw [show zI 2147483648 = -2147483648 by decide]
                    obtain ⟨v64, e65, b66⟩ := h_ior (v57) (-2147483648)
                    refine w_t (np := 118) (l2 := [some (eF a0), some (eD i32), none, some (eI (i34)), some (eI (v57))]) (s2 := [eI (v64)]) rfl (e65 _ _) rfl ?_
                    refine w_go (t1 := 123) rfl rfl ?_
                    exact b_ri rfl rfl (K (v64) (by omega))
                · have b44 : -2147483648 ≤ v40 ∧ v40 ≤ -1 := by omega
                  refine w_t (np := 78) (l2 := [some (eF a0), some (eD i32), none, some (eI (i34)), some (eI (i36))]) (s2 := [eD i32]) rfl rfl rfl ?_
                  refine v_ld (np := 81) (c := 4611686018427387904) rfl rfl rfl ?_
                  have b44 : DB 1025 4611686018427387904 := by
                    unfold DB
                    decide
                  obtain ⟨v45, e46, b47⟩ := d_dmulN b33 b44 (by decide) (by decide)
                  refine w_t (np := 82) (l2 := [some (eF a0), some (eD i32), none, some (eI (i34)), some (eI (i36))]) (s2 := [eD v45]) rfl (e46 _ _) rfl ?_
                  refine w_t (np := 83) (l2 := [some (eF a0), some (eD v45), none, some (eI (i34)), some (eI (i36))]) (s2 := []) rfl rfl rfl ?_
                  obtain ⟨v48, e49, b50⟩ : ∃ zz : Int, ev_w ((i34) + (-1)) = zz ∧ (-2147483648 ≤ zz ∧ zz ≤ 2147483647) := ⟨_, rfl, hw_bd _⟩
                  refine w_t (np := 86) (l2 := [some (eF a0), some (eD v45), none, some (eI (v48)), some (eI (i36))]) (s2 := []) rfl (b_iinc rfl e49 rfl) rfl ?_
                  obtain ⟨v51, e52⟩ : ∃ zz : Int, zz = (i36) + (1) := ⟨_, rfl⟩
                  have b53 : 1 ≤ v51 ∧ v51 ≤ 254 := by omega
                  refine w_t (np := 89) (l2 := [some (eF a0), some (eD v45), none, some (eI (v48)), some (eI (v51))]) (s2 := []) rfl (b_iinc rfl (by rw [← e52]; exact ev_w_in (by omega) (by omega)) rfl) rfl ?_
                  refine w_go (t1 := 63) rfl rfl ?_
                  exact ih31 (254 - (v51)).toNat (by omega) (v45) (v48) (v51) b47 (by omega) (by omega)     rfl
            exact hL63 _ (i17) (i19) (0) b18 (by omega) (by decide)     rfl
          · have b30 : 0 ≤ v26 ∧ v26 ≤ 2147483647 := by omega
            refine w_t (np := 46) (l2 := [some (eF a0), some (eD i17), none, some (eI (i19)), some (eI (i21))]) (s2 := [eD i17]) rfl rfl rfl ?_
            refine v_ld (np := 49) (c := 4611686018427387904) rfl rfl rfl ?_
            have b30 : DB 1025 4611686018427387904 := by
              unfold DB
              decide
            obtain ⟨v31, e32, b33⟩ := d_ddivN b18 b30 (by decide) (by decide)
            refine w_t (np := 50) (l2 := [some (eF a0), some (eD i17), none, some (eI (i19)), some (eI (i21))]) (s2 := [eD v31]) rfl (e32 _ _) rfl ?_
            refine w_t (np := 51) (l2 := [some (eF a0), some (eD v31), none, some (eI (i19)), some (eI (i21))]) (s2 := []) rfl rfl rfl ?_
            obtain ⟨v34, e35, b36⟩ : ∃ zz : Int, ev_w ((i19) + (1)) = zz ∧ (-2147483648 ≤ zz ∧ zz ≤ 2147483647) := ⟨_, rfl, hw_bd _⟩
            refine w_t (np := 54) (l2 := [some (eF a0), some (eD v31), none, some (eI (v34)), some (eI (i21))]) (s2 := []) rfl (b_iinc rfl e35 rfl) rfl ?_
            obtain ⟨v37, e38⟩ : ∃ zz : Int, zz = (i21) + (1) := ⟨_, rfl⟩
            have b39 : 1 ≤ v37 ∧ v37 ≤ 254 := by omega
            refine w_t (np := 57) (l2 := [some (eF a0), some (eD v31), none, some (eI (v34)), some (eI (v37))]) (s2 := []) rfl (b_iinc rfl (by rw [← e38]; exact ev_w_in (by omega) (by omega)) rfl) rfl ?_
            refine w_go (t1 := 29) rfl rfl ?_
            exact ih16 (254 - (v37)).toNat (by omega) (v31) (v34) (v37) b33 (by omega) (by omega)     rfl
      exact hL29 _ (v12) (127) (0) b14 (by decide) (by decide)     rfl
  · have b5 : 0 ≤ v1 ∧ v1 ≤ 0 := by omega
    refine w_t (np := 7) (l2 := [some (eF a0), none, none, none, none]) (s2 := [eI (0)]) rfl rfl rfl ?_
    exact b_ri rfl rfl (K (0) (by decide))
def l_168 : List Nat := [270]
theorem s_168 {L : Nat} {ρ : Nat → Int} {rc : eQ} {d : Nat} {f : eFr} {F : List eFr} {μ : eM} {g : Nat → Nat} {a0 : Nat} {a1 : Int} {a2 : Int} {a3 : Int} (hI : SI g μ) (gA0 : g a0 = 1) (bA1 : -2147483648 ≤ a1 ∧ a1 ≤ 2147483647) (bA2 : -2147483648 ≤ a2 ∧ a2 ≤ 2147483647) (bA3 : -2147483648 ≤ a3 ∧ a3 ≤ 2147483647) (K : ∀ (μ2 : eM) (v : Int), SI g μ2 → Fr l_168 0 0 g μ μ2 → (-2147483648 ≤ v ∧ v ≤ 2147483647) → ex_q (dt_fg L ρ) rc (d + 3, (f.1, f.2.1, f.2.2.1, eI v :: f.2.2.2), F, μ2)) : ex_q (dt_fg L ρ) rc (d + 2, (168, 0, [some (eR a0), some (eI (a1)), some (eI (a2)), some (eI (a3)), none, none], []), f :: F, μ) := by
  have F0 : Fr l_168 0 0 g μ μ := Fr.r
  refine w_t (np := 1) (l2 := [some (eR a0), some (eI (a1)), some (eI (a2)), some (eI (a3)), none, none]) (s2 := [eI (a2)]) rfl rfl rfl ?_
  refine b_ilt (t1 := 18) (t2 := 4) rfl rfl rfl (ev_w_in (by omega) (by omega)) (fun g1 => ?_) (fun g1 => ?_)
  · have b2 : -2147483648 ≤ a2 ∧ a2 ≤ -1 := by omega
    refine w_t (np := 19) (l2 := [some (eR a0), some (eI (a1)), some (eI (a2)), some (eI (a3)), none, none]) (s2 := [eR a0]) rfl (s_an rfl (pos_g hI gA0 (by decide))) rfl ?_
    refine w_t (np := 20) (l2 := [some (eR a0), some (eI (a1)), some (eI (a2)), some (eI (a3)), none, none]) (s2 := [eI (1), eR a0]) rfl rfl rfl ?_
    refine w_cw (np := 23) (as := [eI (1)]) (l2 := [some (eR a0), some (eI (1))]) (rest := []) rfl rfl rfl (Nat.ble_eq.mp rfl) rfl rfl rfl (hI.kd gA0 (by decide) (n := 14) rfl) rfl ?_
    refine w_t (np := 1) (l2 := [some (eR a0), some (eI (1))]) (s2 := [eR a0]) rfl (s_an rfl (pos_g hI gA0 (by decide))) rfl ?_
    refine w_t (np := 2) (l2 := [some (eR a0), some (eI (1))]) (s2 := [eI (1), eR a0]) rfl rfl rfl ?_
    refine j_pf (np := 5) (w := 1) rfl rfl hI gA0 (by decide) (n := 14) rfl rfl (hO_i (lo := -2147483648) (hi := 2147483647) rfl (by decide)) ?_
    intro m2 I3 W4
    have F5 : Fr l_168 0 0 g μ m2 := F0.w W4 gA0 rfl
    refine w_t (np := 6) (l2 := [some (eR a0), some (eI (1))]) (s2 := [eI (-1)]) rfl rfl rfl ?_
    refine b_ri rfl rfl ?_
    show ex_q (dt_fg L ρ) rc (d + 2, (168, 23, [some (eR a0), some (eI (a1)), some (eI (a2)), some (eI (a3)), none, none], [eI (-1)]), f :: F, m2)
    exact b_ri rfl rfl (K m2 (-1) I3 F5 (by decide))
  · have b2 : 0 ≤ a2 ∧ a2 ≤ 2147483647 := by omega
    refine w_t (np := 5) (l2 := [some (eR a0), some (eI (a1)), some (eI (a2)), some (eI (a3)), none, none]) (s2 := [eI (a2)]) rfl rfl rfl ?_
    refine w_t (np := 6) (l2 := [some (eR a0), some (eI (a1)), some (eI (a2)), some (eI (a3)), none, none]) (s2 := [eI (2), eI (a2)]) rfl rfl rfl ?_
    refine b_cgt (t1 := 18) (t2 := 9) rfl rfl rfl (ev_w_in (by omega) (by omega)) rfl (fun g2 => ?_) (fun g2 => ?_)
    · have b3 : 3 ≤ a2 ∧ a2 ≤ 2147483647 := by omega
      refine w_t (np := 19) (l2 := [some (eR a0), some (eI (a1)), some (eI (a2)), some (eI (a3)), none, none]) (s2 := [eR a0]) rfl (s_an rfl (pos_g hI gA0 (by decide))) rfl ?_
      refine w_t (np := 20) (l2 := [some (eR a0), some (eI (a1)), some (eI (a2)), some (eI (a3)), none, none]) (s2 := [eI (1), eR a0]) rfl rfl rfl ?_
      refine w_cw (np := 23) (as := [eI (1)]) (l2 := [some (eR a0), some (eI (1))]) (rest := []) rfl rfl rfl (Nat.ble_eq.mp rfl) rfl rfl rfl (hI.kd gA0 (by decide) (n := 14) rfl) rfl ?_
      refine w_t (np := 1) (l2 := [some (eR a0), some (eI (1))]) (s2 := [eR a0]) rfl (s_an rfl (pos_g hI gA0 (by decide))) rfl ?_
      refine w_t (np := 2) (l2 := [some (eR a0), some (eI (1))]) (s2 := [eI (1), eR a0]) rfl rfl rfl ?_
      refine j_pf (np := 5) (w := 1) rfl rfl hI gA0 (by decide) (n := 14) rfl rfl (hO_i (lo := -2147483648) (hi := 2147483647) rfl (by decide)) ?_
      intro m3 I4 W5
      have F6 : Fr l_168 0 0 g μ m3 := F0.w W5 gA0 rfl
      refine w_t (np := 6) (l2 := [some (eR a0), some (eI (1))]) (s2 := [eI (-1)]) rfl rfl rfl ?_
      refine b_ri rfl rfl ?_
      show ex_q (dt_fg L ρ) rc (d + 2, (168, 23, [some (eR a0), some (eI (a1)), some (eI (a2)), some (eI (a3)), none, none], [eI (-1)]), f :: F, m3)
      exact b_ri rfl rfl (K m3 (-1) I4 F6 (by decide))
    · have b3 : 0 ≤ a2 ∧ a2 ≤ 2 := by omega
      refine w_t (np := 10) (l2 := [some (eR a0), some (eI (a1)), some (eI (a2)), some (eI (a3)), none, none]) (s2 := [eI (a3)]) rfl rfl rfl ?_
      refine b_ilt (t1 := 18) (t2 := 13) rfl rfl rfl (ev_w_in (by omega) (by omega)) (fun g3 => ?_) (fun g3 => ?_)
      · have b4 : -2147483648 ≤ a3 ∧ a3 ≤ -1 := by omega
        refine w_t (np := 19) (l2 := [some (eR a0), some (eI (a1)), some (eI (a2)), some (eI (a3)), none, none]) (s2 := [eR a0]) rfl (s_an rfl (pos_g hI gA0 (by decide))) rfl ?_
        refine w_t (np := 20) (l2 := [some (eR a0), some (eI (a1)), some (eI (a2)), some (eI (a3)), none, none]) (s2 := [eI (1), eR a0]) rfl rfl rfl ?_
        refine w_cw (np := 23) (as := [eI (1)]) (l2 := [some (eR a0), some (eI (1))]) (rest := []) rfl rfl rfl (Nat.ble_eq.mp rfl) rfl rfl rfl (hI.kd gA0 (by decide) (n := 14) rfl) rfl ?_
        refine w_t (np := 1) (l2 := [some (eR a0), some (eI (1))]) (s2 := [eR a0]) rfl (s_an rfl (pos_g hI gA0 (by decide))) rfl ?_
        refine w_t (np := 2) (l2 := [some (eR a0), some (eI (1))]) (s2 := [eI (1), eR a0]) rfl rfl rfl ?_
        refine j_pf (np := 5) (w := 1) rfl rfl hI gA0 (by decide) (n := 14) rfl rfl (hO_i (lo := -2147483648) (hi := 2147483647) rfl (by decide)) ?_
        intro m4 I5 W6
        have F7 : Fr l_168 0 0 g μ m4 := F0.w W6 gA0 rfl
        refine w_t (np := 6) (l2 := [some (eR a0), some (eI (1))]) (s2 := [eI (-1)]) rfl rfl rfl ?_
        refine b_ri rfl rfl ?_
        show ex_q (dt_fg L ρ) rc (d + 2, (168, 23, [some (eR a0), some (eI (a1)), some (eI (a2)), some (eI (a3)), none, none], [eI (-1)]), f :: F, m4)
        exact b_ri rfl rfl (K m4 (-1) I5 F7 (by decide))
      · have b4 : 0 ≤ a3 ∧ a3 ≤ 2147483647 := by omega
        refine w_t (np := 14) (l2 := [some (eR a0), some (eI (a1)), some (eI (a2)), some (eI (a3)), none, none]) (s2 := [eI (a3)]) rfl rfl rfl ?_
        refine w_t (np := 15) (l2 := [some (eR a0), some (eI (a1)), some (eI (a2)), some (eI (a3)), none, none]) (s2 := [eI (1), eI (a3)]) rfl rfl rfl ?_
        refine b_cle (t1 := 24) (t2 := 18) rfl rfl rfl (ev_w_in (by omega) (by omega)) rfl (fun g4 => ?_) (fun g4 => ?_)
        · have b5 : 0 ≤ a3 ∧ a3 ≤ 1 := by omega
          refine w_t (np := 25) (l2 := [some (eR a0), some (eI (a1)), some (eI (a2)), some (eI (a3)), none, none]) (s2 := [eR a0]) rfl (s_an rfl (pos_g hI gA0 (by decide))) rfl ?_
          refine j_gr (np := 28) rfl rfl hI gA0 (by decide) (n := 14) rfl rfl rfl ?_
          intro v5 e6 b7 z8
          rcases hor2 b7 with b7 | b7
          · refine w_t (np := 29) (l2 := [some (eR a0), some (eI (a1)), some (eI (a2)), some (eI (a3)), none, none]) (s2 := [eI (a1), eR v5]) rfl rfl rfl ?_
            refine w_cw (np := 32) (as := [eI (a1)]) (l2 := [some (eR v5), some (eI (a1))]) (rest := []) rfl rfl rfl (Nat.ble_eq.mp rfl) rfl rfl rfl (hI.kd b7 (by decide) (n := 8) rfl) rfl ?_
            refine w_t (np := 1) (l2 := [some (eR v5), some (eI (a1))]) (s2 := [eI (a1)]) rfl rfl rfl ?_
            refine b_ilt (t1 := 12) (t2 := 4) rfl rfl rfl (ev_w_in (by omega) (by omega)) (fun g9 => ?_) (fun g9 => ?_)
            · have b10 : -2147483648 ≤ a1 ∧ a1 ≤ -1 := by omega
              refine w_t (np := 13) (l2 := [some (eR v5), some (eI (a1))]) (s2 := [eI (1)]) rfl rfl rfl ?_
              refine w_go (t1 := 17) rfl rfl ?_
              refine b_rz rfl rfl (Or.inr rfl) ?_
              show ex_q (dt_fg L ρ) rc (d + 2, (168, 32, [some (eR a0), some (eI (a1)), some (eI (a2)), some (eI (a3)), none, none], [eI (1)]), f :: F, μ)
              refine b_ieq (t1 := 41) (t2 := 35) rfl rfl rfl rfl (fun g10 => absurd g10 (by decide)) (fun g10 => ?_)
              refine w_t (np := 36) (l2 := [some (eR a0), some (eI (a1)), some (eI (a2)), some (eI (a3)), none, none]) (s2 := [eR a0]) rfl (s_an rfl (pos_g hI gA0 (by decide))) rfl ?_
              refine w_t (np := 37) (l2 := [some (eR a0), some (eI (a1)), some (eI (a2)), some (eI (a3)), none, none]) (s2 := [eI (2), eR a0]) rfl rfl rfl ?_
              refine w_cw (np := 40) (as := [eI (2)]) (l2 := [some (eR a0), some (eI (2))]) (rest := []) rfl rfl rfl (Nat.ble_eq.mp rfl) rfl rfl rfl (hI.kd gA0 (by decide) (n := 14) rfl) rfl ?_
              refine w_t (np := 1) (l2 := [some (eR a0), some (eI (2))]) (s2 := [eR a0]) rfl (s_an rfl (pos_g hI gA0 (by decide))) rfl ?_
              refine w_t (np := 2) (l2 := [some (eR a0), some (eI (2))]) (s2 := [eI (2), eR a0]) rfl rfl rfl ?_
              refine j_pf (np := 5) (w := 2) rfl rfl hI gA0 (by decide) (n := 14) rfl rfl (hO_i (lo := -2147483648) (hi := 2147483647) rfl (by decide)) ?_
              intro m11 I12 W13
              have F14 : Fr l_168 0 0 g μ m11 := F0.w W13 gA0 rfl
              refine w_t (np := 6) (l2 := [some (eR a0), some (eI (2))]) (s2 := [eI (-1)]) rfl rfl rfl ?_
              refine b_ri rfl rfl ?_
              show ex_q (dt_fg L ρ) rc (d + 2, (168, 40, [some (eR a0), some (eI (a1)), some (eI (a2)), some (eI (a3)), none, none], [eI (-1)]), f :: F, m11)
              exact b_ri rfl rfl (K m11 (-1) I12 F14 (by decide))
            · have b10 : 0 ≤ a1 ∧ a1 ≤ 2147483647 := by omega
              refine w_t (np := 5) (l2 := [some (eR v5), some (eI (a1))]) (s2 := [eI (a1)]) rfl rfl rfl ?_
              refine w_t (np := 6) (l2 := [some (eR v5), some (eI (a1))]) (s2 := [eR v5, eI (a1)]) rfl (s_an rfl (pos_g hI b7 (by decide))) rfl ?_
              refine j_gi (np := 9) rfl rfl rfl hI b7 (by decide) (n := 8) rfl rfl (lo := 0) (hi := 50) rfl ?_
              intro v10 e11 b12
              refine b_clt (t1 := 16) (t2 := 12) rfl rfl rfl (ev_w_in (by omega) (by omega)) (ev_w_in (by omega) (by omega)) (fun g13 => ?_) (fun g13 => ?_)
              · have b14 : 0 ≤ a1 ∧ a1 ≤ 49 := by omega
                have b15 : 1 ≤ v10 ∧ v10 ≤ 50 := by omega
                refine w_t (np := 17) (l2 := [some (eR v5), some (eI (a1))]) (s2 := [eI (0)]) rfl rfl rfl ?_
                refine b_rz rfl rfl (Or.inl rfl) ?_
                show ex_q (dt_fg L ρ) rc (d + 2, (168, 32, [some (eR a0), some (eI (a1)), some (eI (a2)), some (eI (a3)), none, none], [eI (0)]), f :: F, μ)
                refine b_ieq (t1 := 41) (t2 := 35) rfl rfl rfl rfl (fun g14 => ?_) (fun g14 => absurd g14 (by decide))
                refine w_t (np := 42) (l2 := [some (eR a0), some (eI (a1)), some (eI (a2)), some (eI (a3)), none, none]) (s2 := [eR a0]) rfl (s_an rfl (pos_g hI gA0 (by decide))) rfl ?_
                refine w_gf (np := 45) (v := eR v5) rfl rfl (hI.kd gA0 (by decide) (n := 14) rfl) (by rw [e6]; rfl) ?_
                refine w_t (np := 46) (l2 := [some (eR a0), some (eI (a1)), some (eI (a2)), some (eI (a3)), none, none]) (s2 := [eI (a1), eR v5]) rfl rfl rfl ?_
                refine w_t (np := 47) (l2 := [some (eR a0), some (eI (a1)), some (eI (a2)), some (eI (a3)), none, none]) (s2 := [eI (a2), eI (a1), eR v5]) rfl rfl rfl ?_
                refine w_cw (np := 50) (as := [eI (a1), eI (a2)]) (l2 := [some (eR v5), some (eI (a1)), some (eI (a2))]) (rest := []) rfl rfl rfl (Nat.ble_eq.mp rfl) rfl rfl rfl (hI.kd b7 (by decide) (n := 8) rfl) rfl ?_
                refine s_22 (a1 := a1) (a2 := a2) hI b7 (by omega) (by omega) ?_
                intro v15 b16
                show ex_q (dt_fg L ρ) rc (d + 2, (168, 50, [some (eR a0), some (eI (a1)), some (eI (a2)), some (eI (a3)), none, none], [eJ (v15)]), f :: F, μ)
                refine w_t (np := 52) (l2 := [some (eR a0), some (eI (a1)), some (eI (a2)), some (eI (a3)), some (eJ (v15)), none]) (s2 := []) rfl rfl rfl ?_
                refine w_t (np := 53) (l2 := [some (eR a0), some (eI (a1)), some (eI (a2)), some (eI (a3)), some (eJ (v15)), none]) (s2 := [eR a0]) rfl (s_an rfl (pos_g hI gA0 (by decide))) rfl ?_
                refine w_t (np := 54) (l2 := [some (eR a0), some (eI (a1)), some (eI (a2)), some (eI (a3)), some (eJ (v15)), none]) (s2 := [eI (a3), eR a0]) rfl rfl rfl ?_
                refine b_ine (t1 := 65) (t2 := 57) rfl rfl rfl (ev_w_in (by omega) (by omega)) (fun g17 => ?_) (fun g17 => ?_)
                · have b18 : 1 ≤ a3 ∧ a3 ≤ 1 := by omega
                  refine w_t (np := 67) (l2 := [some (eR a0), some (eI (a1)), some (eI (a2)), some (eI (a3)), some (eJ (v15)), none]) (s2 := [eJ (v15), eR a0]) rfl rfl rfl ?_
                  refine w_cu (np := 70) (as := [eJ (v15)]) (l2 := [some (eJ (v15)), none, none, none]) (rest := [eR a0]) rfl rfl rfl (Nat.ble_eq.mp rfl) rfl rfl rfl rfl ?_
                  refine w_t (np := 1) (l2 := [some (eJ (v15)), none, none, none]) (s2 := [eJ (v15)]) rfl rfl rfl ?_
                  refine w_t (np := 2) (l2 := [some (eJ (v15)), none, none, none]) (s2 := [eI (1), eJ (v15)]) rfl rfl rfl ?_
                  refine w_cu (np := 5) (as := [eJ (v15), eI (1)]) (l2 := [some (eJ (v15)), none, some (eI (1))]) (rest := []) rfl rfl rfl (Nat.ble_eq.mp rfl) rfl rfl rfl rfl ?_
                  refine s_73 (a2 := 1) hI b16 (by decide) ?_
                  intro v18 b19
                  show ex_q (dt_fg L ρ) rc (d + 1, (89, 5, [some (eJ (v15)), none, none, none], [eI (v18)]), (168, 70, [some (eR a0), some (eI (a1)), some (eI (a2)), some (eI (a3)), some (eJ (v15)), none], [eR a0]) :: f :: F, μ)
                  obtain ⟨v20, e21, b22⟩ := d_i2d (v18)
                  refine w_t (np := 6) (l2 := [some (eJ (v15)), none, none, none]) (s2 := [eD v20]) rfl (e21 _ _) rfl ?_
                  refine v_ld (np := 9) (c := 4603469518431668664) rfl rfl rfl ?_
                  have b23 : DB 1023 4603469518431668664 := by
                    unfold DB
                    decide
                  obtain ⟨v24, e25, b26⟩ := d_dmul (K := 1057) b22 b23 (by decide) (by decide) rfl (by decide)
                  refine w_t (np := 10) (l2 := [some (eJ (v15)), none, none, none]) (s2 := [eD v24]) rfl (e25 _ _) rfl ?_
                  refine w_t (np := 11) (l2 := [some (eJ (v15)), none, some (eD v24), none]) (s2 := []) rfl rfl rfl ?_
                  refine w_t (np := 12) (l2 := [some (eJ (v15)), none, some (eD v24), none]) (s2 := [eD v24]) rfl rfl rfl ?_
                  refine w_t (np := 13) (l2 := [some (eJ (v15)), none, some (eD v24), none]) (s2 := [eJ (v15), eD v24]) rfl rfl rfl ?_
                  refine w_t (np := 14) (l2 := [some (eJ (v15)), none, some (eD v24), none]) (s2 := [eI (2), eJ (v15), eD v24]) rfl rfl rfl ?_
                  refine w_cu (np := 17) (as := [eJ (v15), eI (2)]) (l2 := [some (eJ (v15)), none, some (eI (2))]) (rest := [eD v24]) rfl rfl rfl (Nat.ble_eq.mp rfl) rfl rfl rfl rfl ?_
                  refine s_73 (a2 := 2) hI b16 (by decide) ?_
                  intro v27 b28
                  show ex_q (dt_fg L ρ) rc (d + 1, (89, 17, [some (eJ (v15)), none, some (eD v24), none], [eI (v27), eD v24]), (168, 70, [some (eR a0), some (eI (a1)), some (eI (a2)), some (eI (a3)), some (eJ (v15)), none], [eR a0]) :: f :: F, μ)
                  obtain ⟨v29, e30, b31⟩ := d_i2d (v27)
                  refine w_t (np := 18) (l2 := [some (eJ (v15)), none, some (eD v24), none]) (s2 := [eD v29, eD v24]) rfl (e30 _ _) rfl ?_
                  refine v_ld (np := 21) (c := 4606741575090065304) rfl rfl rfl ?_
                  have b32 : DB 1023 4606741575090065304 := by
                    unfold DB
                    decide
                  obtain ⟨v33, e34, b35⟩ := d_dmul (K := 1057) b31 b32 (by decide) (by decide) rfl (by decide)
                  refine w_t (np := 22) (l2 := [some (eJ (v15)), none, some (eD v24), none]) (s2 := [eD v33, eD v24]) rfl (e34 _ _) rfl ?_
                  obtain ⟨v36, e37, b38⟩ := d_dadd (K := 1057) (K2 := 1059) (b26.up (by decide)) (b35.up (by decide)) (by decide) rfl
                  refine w_t (np := 23) (l2 := [some (eJ (v15)), none, some (eD v24), none]) (s2 := [eD v36]) rfl (e37 _ _) rfl ?_
                  refine w_t (np := 24) (l2 := [some (eJ (v15)), none, some (eD v36), none]) (s2 := []) rfl rfl rfl ?_
                  refine w_t (np := 25) (l2 := [some (eJ (v15)), none, some (eD v36), none]) (s2 := [eD v36]) rfl rfl rfl ?_
                  refine w_t (np := 26) (l2 := [some (eJ (v15)), none, some (eD v36), none]) (s2 := [eJ (v15), eD v36]) rfl rfl rfl ?_
                  refine w_t (np := 27) (l2 := [some (eJ (v15)), none, some (eD v36), none]) (s2 := [eI (3), eJ (v15), eD v36]) rfl rfl rfl ?_
                  refine w_cu (np := 30) (as := [eJ (v15), eI (3)]) (l2 := [some (eJ (v15)), none, some (eI (3))]) (rest := [eD v36]) rfl rfl rfl (Nat.ble_eq.mp rfl) rfl rfl rfl rfl ?_
                  refine s_73 (a2 := 3) hI b16 (by decide) ?_
                  intro v39 b40
                  show ex_q (dt_fg L ρ) rc (d + 1, (89, 30, [some (eJ (v15)), none, some (eD v36), none], [eI (v39), eD v36]), (168, 70, [some (eR a0), some (eI (a1)), some (eI (a2)), some (eI (a3)), some (eJ (v15)), none], [eR a0]) :: f :: F, μ)
                  obtain ⟨v41, e42, b43⟩ := d_i2d (v39)
                  refine w_t (np := 31) (l2 := [some (eJ (v15)), none, some (eD v36), none]) (s2 := [eD v41, eD v36]) rfl (e42 _ _) rfl ?_
                  refine v_ld (np := 34) (c := 4606741575090065304) rfl rfl rfl ?_
                  have b44 : DB 1023 4606741575090065304 := by
                    unfold DB
                    decide
                  obtain ⟨v45, e46, b47⟩ := d_dmul (K := 1057) b43 b44 (by decide) (by decide) rfl (by decide)
                  refine w_t (np := 35) (l2 := [some (eJ (v15)), none, some (eD v36), none]) (s2 := [eD v45, eD v36]) rfl (e46 _ _) rfl ?_
                  obtain ⟨v48, e49, b50⟩ := d_dadd (K := 1059) (K2 := 1061) (b38.up (by decide)) (b47.up (by decide)) (by decide) rfl
                  refine w_t (np := 36) (l2 := [some (eJ (v15)), none, some (eD v36), none]) (s2 := [eD v48]) rfl (e49 _ _) rfl ?_
                  refine b_rd rfl rfl ?_
                  show ex_q (dt_fg L ρ) rc (d + 2, (168, 70, [some (eR a0), some (eI (a1)), some (eI (a2)), some (eI (a3)), some (eJ (v15)), none], [eD v48, eR a0]), f :: F, μ)
                  obtain ⟨v51, e52, b53⟩ := d_d2f b50 (by decide)
                  refine w_t (np := 71) (l2 := [some (eR a0), some (eI (a1)), some (eI (a2)), some (eI (a3)), some (eJ (v15)), none]) (s2 := [eF v51, eR a0]) rfl (e52 _ _) rfl ?_
                  refine w_cu (np := 74) (as := [eF v51]) (l2 := [some (eF v51), none, none, none, none]) (rest := [eR a0]) rfl rfl rfl (Nat.ble_eq.mp rfl) rfl rfl rfl rfl ?_
                  refine s_90 hI b53 ?_
                  intro v54 b55
                  show ex_q (dt_fg L ρ) rc (d + 2, (168, 74, [some (eR a0), some (eI (a1)), some (eI (a2)), some (eI (a3)), some (eJ (v15)), none], [eI (v54), eR a0]), f :: F, μ)
                  refine w_cw (np := 77) (as := [eI (v54)]) (l2 := [some (eR a0), some (eI (v54))]) (rest := []) rfl rfl rfl (Nat.ble_eq.mp rfl) rfl rfl rfl (hI.kd gA0 (by decide) (n := 14) rfl) rfl ?_
                  refine w_t (np := 1) (l2 := [some (eR a0), some (eI (v54))]) (s2 := [eR a0]) rfl (s_an rfl (pos_g hI gA0 (by decide))) rfl ?_
                  refine w_t (np := 2) (l2 := [some (eR a0), some (eI (v54))]) (s2 := [eI (0), eR a0]) rfl rfl rfl ?_
                  refine j_pf (np := 5) (w := 0) rfl rfl hI gA0 (by decide) (n := 14) rfl rfl (hO_i (lo := -2147483648) (hi := 2147483647) rfl (by decide)) ?_
                  intro m56 I57 W58
                  have F59 : Fr l_168 0 0 g μ m56 := F0.w W58 gA0 rfl
                  refine w_t (np := 6) (l2 := [some (eR a0), some (eI (v54))]) (s2 := [eI (v54)]) rfl rfl rfl ?_
                  refine b_ri rfl rfl ?_
                  show ex_q (dt_fg L ρ) rc (d + 2, (168, 77, [some (eR a0), some (eI (a1)), some (eI (a2)), some (eI (a3)), some (eJ (v15)), none], [eI (v54)]), f :: F, m56)
                  exact b_ri rfl rfl (K m56 (v54) I57 F59 (by omega))
                · have b18 : 0 ≤ a3 ∧ a3 ≤ 0 := by omega
                  refine w_t (np := 59) (l2 := [some (eR a0), some (eI (a1)), some (eI (a2)), some (eI (a3)), some (eJ (v15)), none]) (s2 := [eJ (v15), eR a0]) rfl rfl rfl ?_
                  refine w_cu (np := 62) (as := [eJ (v15)]) (l2 := [some (eJ (v15)), none, none, none]) (rest := [eR a0]) rfl rfl rfl (Nat.ble_eq.mp rfl) rfl rfl rfl rfl ?_
                  refine w_t (np := 1) (l2 := [some (eJ (v15)), none, none, none]) (s2 := [eJ (v15)]) rfl rfl rfl ?_
                  refine w_t (np := 2) (l2 := [some (eJ (v15)), none, none, none]) (s2 := [eI (0), eJ (v15)]) rfl rfl rfl ?_
                  refine w_cu (np := 5) (as := [eJ (v15), eI (0)]) (l2 := [some (eJ (v15)), none, some (eI (0))]) (rest := []) rfl rfl rfl (Nat.ble_eq.mp rfl) rfl rfl rfl rfl ?_
                  refine s_73 (a2 := 0) hI b16 (by decide) ?_
                  intro v18 b19
                  show ex_q (dt_fg L ρ) rc (d + 1, (88, 5, [some (eJ (v15)), none, none, none], [eI (v18)]), (168, 62, [some (eR a0), some (eI (a1)), some (eI (a2)), some (eI (a3)), some (eJ (v15)), none], [eR a0]) :: f :: F, μ)
                  obtain ⟨v20, e21, b22⟩ := d_i2d (v18)
                  refine w_t (np := 6) (l2 := [some (eJ (v15)), none, none, none]) (s2 := [eD v20]) rfl (e21 _ _) rfl ?_
                  refine w_t (np := 7) (l2 := [some (eJ (v15)), none, some (eD v20), none]) (s2 := []) rfl rfl rfl ?_
                  refine w_t (np := 8) (l2 := [some (eJ (v15)), none, some (eD v20), none]) (s2 := [eD v20]) rfl rfl rfl ?_
                  refine w_t (np := 9) (l2 := [some (eJ (v15)), none, some (eD v20), none]) (s2 := [eJ (v15), eD v20]) rfl rfl rfl ?_
                  refine w_t (np := 10) (l2 := [some (eJ (v15)), none, some (eD v20), none]) (s2 := [eI (1), eJ (v15), eD v20]) rfl rfl rfl ?_
                  refine w_cu (np := 13) (as := [eJ (v15), eI (1)]) (l2 := [some (eJ (v15)), none, some (eI (1))]) (rest := [eD v20]) rfl rfl rfl (Nat.ble_eq.mp rfl) rfl rfl rfl rfl ?_
                  refine s_73 (a2 := 1) hI b16 (by decide) ?_
                  intro v23 b24
                  show ex_q (dt_fg L ρ) rc (d + 1, (88, 13, [some (eJ (v15)), none, some (eD v20), none], [eI (v23), eD v20]), (168, 62, [some (eR a0), some (eI (a1)), some (eI (a2)), some (eI (a3)), some (eJ (v15)), none], [eR a0]) :: f :: F, μ)
                  obtain ⟨v25, e26, b27⟩ := d_i2d (v23)
                  refine w_t (np := 14) (l2 := [some (eJ (v15)), none, some (eD v20), none]) (s2 := [eD v25, eD v20]) rfl (e26 _ _) rfl ?_
                  refine v_ld (np := 17) (c := 4605462196814083713) rfl rfl rfl ?_
                  have b28 : DB 1023 4605462196814083713 := by
                    unfold DB
                    decide
                  obtain ⟨v29, e30, b31⟩ := d_dmul (K := 1057) b27 b28 (by decide) (by decide) rfl (by decide)
                  refine w_t (np := 18) (l2 := [some (eJ (v15)), none, some (eD v20), none]) (s2 := [eD v29, eD v20]) rfl (e30 _ _) rfl ?_
                  obtain ⟨v32, e33, b34⟩ := d_dadd (K := 1057) (K2 := 1059) (b22.up (by decide)) (b31.up (by decide)) (by decide) rfl
                  refine w_t (np := 19) (l2 := [some (eJ (v15)), none, some (eD v20), none]) (s2 := [eD v32]) rfl (e33 _ _) rfl ?_
                  refine w_t (np := 20) (l2 := [some (eJ (v15)), none, some (eD v32), none]) (s2 := []) rfl rfl rfl ?_
                  refine w_t (np := 21) (l2 := [some (eJ (v15)), none, some (eD v32), none]) (s2 := [eD v32]) rfl rfl rfl ?_
                  refine w_t (np := 22) (l2 := [some (eJ (v15)), none, some (eD v32), none]) (s2 := [eJ (v15), eD v32]) rfl rfl rfl ?_
                  refine w_t (np := 23) (l2 := [some (eJ (v15)), none, some (eD v32), none]) (s2 := [eI (2), eJ (v15), eD v32]) rfl rfl rfl ?_
                  refine w_cu (np := 26) (as := [eJ (v15), eI (2)]) (l2 := [some (eJ (v15)), none, some (eI (2))]) (rest := [eD v32]) rfl rfl rfl (Nat.ble_eq.mp rfl) rfl rfl rfl rfl ?_
                  refine s_73 (a2 := 2) hI b16 (by decide) ?_
                  intro v35 b36
                  show ex_q (dt_fg L ρ) rc (d + 1, (88, 26, [some (eJ (v15)), none, some (eD v32), none], [eI (v35), eD v32]), (168, 62, [some (eR a0), some (eI (a1)), some (eI (a2)), some (eI (a3)), some (eJ (v15)), none], [eR a0]) :: f :: F, μ)
                  obtain ⟨v37, e38, b39⟩ := d_i2d (v35)
                  refine w_t (np := 27) (l2 := [some (eJ (v15)), none, some (eD v32), none]) (s2 := [eD v37, eD v32]) rfl (e38 _ _) rfl ?_
                  refine v_ld (np := 30) (c := 4599238375200779523) rfl rfl rfl ?_
                  have b40 : DB 1022 4599238375200779523 := by
                    unfold DB
                    decide
                  obtain ⟨v41, e42, b43⟩ := d_dmul (K := 1056) b39 b40 (by decide) (by decide) rfl (by decide)
                  refine w_t (np := 31) (l2 := [some (eJ (v15)), none, some (eD v32), none]) (s2 := [eD v41, eD v32]) rfl (e42 _ _) rfl ?_
                  obtain ⟨v44, e45, b46⟩ := d_dadd (K := 1059) (K2 := 1061) (b34.up (by decide)) (b43.up (by decide)) (by decide) rfl
                  refine w_t (np := 32) (l2 := [some (eJ (v15)), none, some (eD v32), none]) (s2 := [eD v44]) rfl (e45 _ _) rfl ?_
                  refine w_t (np := 33) (l2 := [some (eJ (v15)), none, some (eD v44), none]) (s2 := []) rfl rfl rfl ?_
                  refine w_t (np := 34) (l2 := [some (eJ (v15)), none, some (eD v44), none]) (s2 := [eD v44]) rfl rfl rfl ?_
                  refine w_t (np := 35) (l2 := [some (eJ (v15)), none, some (eD v44), none]) (s2 := [eJ (v15), eD v44]) rfl rfl rfl ?_
                  refine w_t (np := 36) (l2 := [some (eJ (v15)), none, some (eD v44), none]) (s2 := [eI (3), eJ (v15), eD v44]) rfl rfl rfl ?_
                  refine w_cu (np := 39) (as := [eJ (v15), eI (3)]) (l2 := [some (eJ (v15)), none, some (eI (3))]) (rest := [eD v44]) rfl rfl rfl (Nat.ble_eq.mp rfl) rfl rfl rfl rfl ?_
                  refine s_73 (a2 := 3) hI b16 (by decide) ?_
                  intro v47 b48
                  show ex_q (dt_fg L ρ) rc (d + 1, (88, 39, [some (eJ (v15)), none, some (eD v44), none], [eI (v47), eD v44]), (168, 62, [some (eR a0), some (eI (a1)), some (eI (a2)), some (eI (a3)), some (eJ (v15)), none], [eR a0]) :: f :: F, μ)
                  obtain ⟨v49, e50, b51⟩ := d_i2d (v47)
                  refine w_t (np := 40) (l2 := [some (eJ (v15)), none, some (eD v44), none]) (s2 := [eD v49, eD v44]) rfl (e50 _ _) rfl ?_
                  refine v_ld (np := 43) (c := 4599238375200779523) rfl rfl rfl ?_
                  have b52 : DB 1022 4599238375200779523 := by
                    unfold DB
                    decide
                  obtain ⟨v53, e54, b55⟩ := d_dmul (K := 1056) b51 b52 (by decide) (by decide) rfl (by decide)
                  refine w_t (np := 44) (l2 := [some (eJ (v15)), none, some (eD v44), none]) (s2 := [eD v53, eD v44]) rfl (e54 _ _) rfl ?_
                  obtain ⟨v56, e57, b58⟩ := d_dsub (K := 1061) (K2 := 1063) (b46.up (by decide)) (b55.up (by decide)) (by decide) rfl
                  refine w_t (np := 45) (l2 := [some (eJ (v15)), none, some (eD v44), none]) (s2 := [eD v56]) rfl (e57 _ _) rfl ?_
                  refine b_rd rfl rfl ?_
                  show ex_q (dt_fg L ρ) rc (d + 2, (168, 62, [some (eR a0), some (eI (a1)), some (eI (a2)), some (eI (a3)), some (eJ (v15)), none], [eD v56, eR a0]), f :: F, μ)
                  refine w_go (t1 := 70) rfl rfl ?_
                  obtain ⟨v59, e60, b61⟩ := d_d2f b58 (by decide)
                  refine w_t (np := 71) (l2 := [some (eR a0), some (eI (a1)), some (eI (a2)), some (eI (a3)), some (eJ (v15)), none]) (s2 := [eF v59, eR a0]) rfl (e60 _ _) rfl ?_
                  refine w_cu (np := 74) (as := [eF v59]) (l2 := [some (eF v59), none, none, none, none]) (rest := [eR a0]) rfl rfl rfl (Nat.ble_eq.mp rfl) rfl rfl rfl rfl ?_
                  refine s_90 hI b61 ?_
                  intro v62 b63
                  show ex_q (dt_fg L ρ) rc (d + 2, (168, 74, [some (eR a0), some (eI (a1)), some (eI (a2)), some (eI (a3)), some (eJ (v15)), none], [eI (v62), eR a0]), f :: F, μ)
                  refine w_cw (np := 77) (as := [eI (v62)]) (l2 := [some (eR a0), some (eI (v62))]) (rest := []) rfl rfl rfl (Nat.ble_eq.mp rfl) rfl rfl rfl (hI.kd gA0 (by decide) (n := 14) rfl) rfl ?_
                  refine w_t (np := 1) (l2 := [some (eR a0), some (eI (v62))]) (s2 := [eR a0]) rfl (s_an rfl (pos_g hI gA0 (by decide))) rfl ?_
                  refine w_t (np := 2) (l2 := [some (eR a0), some (eI (v62))]) (s2 := [eI (0), eR a0]) rfl rfl rfl ?_
                  refine j_pf (np := 5) (w := 0) rfl rfl hI gA0 (by decide) (n := 14) rfl rfl (hO_i (lo := -2147483648) (hi := 2147483647) rfl (by decide)) ?_
                  intro m64 I65 W66
                  have F67 : Fr l_168 0 0 g μ m64 := F0.w W66 gA0 rfl
                  refine w_t (np := 6) (l2 := [some (eR a0), some (eI (v62))]) (s2 := [eI (v62)]) rfl rfl rfl ?_
                  refine b_ri rfl rfl ?_
                  show ex_q (dt_fg L ρ) rc (d + 2, (168, 77, [some (eR a0), some (eI (a1)), some (eI (a2)), some (eI (a3)), some (eJ (v15)), none], [eI (v62)]), f :: F, m64)
                  exact b_ri rfl rfl (K m64 (v62) I65 F67 (by omega))
              · refine w_t (np := 13) (l2 := [some (eR v5), some (eI (a1))]) (s2 := [eI (1)]) rfl rfl rfl ?_
                refine w_go (t1 := 17) rfl rfl ?_
                refine b_rz rfl rfl (Or.inr rfl) ?_
                show ex_q (dt_fg L ρ) rc (d + 2, (168, 32, [some (eR a0), some (eI (a1)), some (eI (a2)), some (eI (a3)), none, none], [eI (1)]), f :: F, μ)
                refine b_ieq (t1 := 41) (t2 := 35) rfl rfl rfl rfl (fun g14 => absurd g14 (by decide)) (fun g14 => ?_)
                refine w_t (np := 36) (l2 := [some (eR a0), some (eI (a1)), some (eI (a2)), some (eI (a3)), none, none]) (s2 := [eR a0]) rfl (s_an rfl (pos_g hI gA0 (by decide))) rfl ?_
                refine w_t (np := 37) (l2 := [some (eR a0), some (eI (a1)), some (eI (a2)), some (eI (a3)), none, none]) (s2 := [eI (2), eR a0]) rfl rfl rfl ?_
                refine w_cw (np := 40) (as := [eI (2)]) (l2 := [some (eR a0), some (eI (2))]) (rest := []) rfl rfl rfl (Nat.ble_eq.mp rfl) rfl rfl rfl (hI.kd gA0 (by decide) (n := 14) rfl) rfl ?_
                refine w_t (np := 1) (l2 := [some (eR a0), some (eI (2))]) (s2 := [eR a0]) rfl (s_an rfl (pos_g hI gA0 (by decide))) rfl ?_
                refine w_t (np := 2) (l2 := [some (eR a0), some (eI (2))]) (s2 := [eI (2), eR a0]) rfl rfl rfl ?_
                refine j_pf (np := 5) (w := 2) rfl rfl hI gA0 (by decide) (n := 14) rfl rfl (hO_i (lo := -2147483648) (hi := 2147483647) rfl (by decide)) ?_
                intro m15 I16 W17
                have F18 : Fr l_168 0 0 g μ m15 := F0.w W17 gA0 rfl
                refine w_t (np := 6) (l2 := [some (eR a0), some (eI (2))]) (s2 := [eI (-1)]) rfl rfl rfl ?_
                refine b_ri rfl rfl ?_
                show ex_q (dt_fg L ρ) rc (d + 2, (168, 40, [some (eR a0), some (eI (a1)), some (eI (a2)), some (eI (a3)), none, none], [eI (-1)]), f :: F, m15)
                exact b_ri rfl rfl (K m15 (-1) I16 F18 (by decide))
          · refine w_t (np := 29) (l2 := [some (eR a0), some (eI (a1)), some (eI (a2)), some (eI (a3)), none, none]) (s2 := [eI (a1), eR v5]) rfl rfl rfl ?_
            refine w_cw (np := 32) (as := [eI (a1)]) (l2 := [some (eR v5), some (eI (a1))]) (rest := []) rfl rfl rfl (Nat.ble_eq.mp rfl) rfl rfl rfl (hI.kd b7 (by decide) (n := 8) rfl) rfl ?_
            refine w_t (np := 1) (l2 := [some (eR v5), some (eI (a1))]) (s2 := [eI (a1)]) rfl rfl rfl ?_
            refine b_ilt (t1 := 12) (t2 := 4) rfl rfl rfl (ev_w_in (by omega) (by omega)) (fun g9 => ?_) (fun g9 => ?_)
            · have b10 : -2147483648 ≤ a1 ∧ a1 ≤ -1 := by omega
              refine w_t (np := 13) (l2 := [some (eR v5), some (eI (a1))]) (s2 := [eI (1)]) rfl rfl rfl ?_
              refine w_go (t1 := 17) rfl rfl ?_
              refine b_rz rfl rfl (Or.inr rfl) ?_
              show ex_q (dt_fg L ρ) rc (d + 2, (168, 32, [some (eR a0), some (eI (a1)), some (eI (a2)), some (eI (a3)), none, none], [eI (1)]), f :: F, μ)
              refine b_ieq (t1 := 41) (t2 := 35) rfl rfl rfl rfl (fun g10 => absurd g10 (by decide)) (fun g10 => ?_)
              refine w_t (np := 36) (l2 := [some (eR a0), some (eI (a1)), some (eI (a2)), some (eI (a3)), none, none]) (s2 := [eR a0]) rfl (s_an rfl (pos_g hI gA0 (by decide))) rfl ?_
              refine w_t (np := 37) (l2 := [some (eR a0), some (eI (a1)), some (eI (a2)), some (eI (a3)), none, none]) (s2 := [eI (2), eR a0]) rfl rfl rfl ?_
              refine w_cw (np := 40) (as := [eI (2)]) (l2 := [some (eR a0), some (eI (2))]) (rest := []) rfl rfl rfl (Nat.ble_eq.mp rfl) rfl rfl rfl (hI.kd gA0 (by decide) (n := 14) rfl) rfl ?_
              refine w_t (np := 1) (l2 := [some (eR a0), some (eI (2))]) (s2 := [eR a0]) rfl (s_an rfl (pos_g hI gA0 (by decide))) rfl ?_
              refine w_t (np := 2) (l2 := [some (eR a0), some (eI (2))]) (s2 := [eI (2), eR a0]) rfl rfl rfl ?_
              refine j_pf (np := 5) (w := 2) rfl rfl hI gA0 (by decide) (n := 14) rfl rfl (hO_i (lo := -2147483648) (hi := 2147483647) rfl (by decide)) ?_
              intro m11 I12 W13
              have F14 : Fr l_168 0 0 g μ m11 := F0.w W13 gA0 rfl
              refine w_t (np := 6) (l2 := [some (eR a0), some (eI (2))]) (s2 := [eI (-1)]) rfl rfl rfl ?_
              refine b_ri rfl rfl ?_
              show ex_q (dt_fg L ρ) rc (d + 2, (168, 40, [some (eR a0), some (eI (a1)), some (eI (a2)), some (eI (a3)), none, none], [eI (-1)]), f :: F, m11)
              exact b_ri rfl rfl (K m11 (-1) I12 F14 (by decide))
            · have b10 : 0 ≤ a1 ∧ a1 ≤ 2147483647 := by omega
              refine w_t (np := 5) (l2 := [some (eR v5), some (eI (a1))]) (s2 := [eI (a1)]) rfl rfl rfl ?_
              refine w_t (np := 6) (l2 := [some (eR v5), some (eI (a1))]) (s2 := [eR v5, eI (a1)]) rfl (s_an rfl (pos_g hI b7 (by decide))) rfl ?_
              refine j_gi (np := 9) rfl rfl rfl hI b7 (by decide) (n := 8) rfl rfl (lo := 0) (hi := 890) rfl ?_
              intro v10 e11 b12
              refine b_clt (t1 := 16) (t2 := 12) rfl rfl rfl (ev_w_in (by omega) (by omega)) (ev_w_in (by omega) (by omega)) (fun g13 => ?_) (fun g13 => ?_)
              · have b14 : 0 ≤ a1 ∧ a1 ≤ 889 := by omega
                have b15 : 1 ≤ v10 ∧ v10 ≤ 890 := by omega
                refine w_t (np := 17) (l2 := [some (eR v5), some (eI (a1))]) (s2 := [eI (0)]) rfl rfl rfl ?_
                refine b_rz rfl rfl (Or.inl rfl) ?_
                show ex_q (dt_fg L ρ) rc (d + 2, (168, 32, [some (eR a0), some (eI (a1)), some (eI (a2)), some (eI (a3)), none, none], [eI (0)]), f :: F, μ)
                refine b_ieq (t1 := 41) (t2 := 35) rfl rfl rfl rfl (fun g14 => ?_) (fun g14 => absurd g14 (by decide))
                refine w_t (np := 42) (l2 := [some (eR a0), some (eI (a1)), some (eI (a2)), some (eI (a3)), none, none]) (s2 := [eR a0]) rfl (s_an rfl (pos_g hI gA0 (by decide))) rfl ?_
                refine w_gf (np := 45) (v := eR v5) rfl rfl (hI.kd gA0 (by decide) (n := 14) rfl) (by rw [e6]; rfl) ?_
                refine w_t (np := 46) (l2 := [some (eR a0), some (eI (a1)), some (eI (a2)), some (eI (a3)), none, none]) (s2 := [eI (a1), eR v5]) rfl rfl rfl ?_
                refine w_t (np := 47) (l2 := [some (eR a0), some (eI (a1)), some (eI (a2)), some (eI (a3)), none, none]) (s2 := [eI (a2), eI (a1), eR v5]) rfl rfl rfl ?_
                refine w_cw (np := 50) (as := [eI (a1), eI (a2)]) (l2 := [some (eR v5), some (eI (a1)), some (eI (a2))]) (rest := []) rfl rfl rfl (Nat.ble_eq.mp rfl) rfl rfl rfl (hI.kd b7 (by decide) (n := 8) rfl) rfl ?_
                refine s_22_2 (a1 := a1) (a2 := a2) hI b7 (by omega) (by omega) ?_
                intro v15 b16
                show ex_q (dt_fg L ρ) rc (d + 2, (168, 50, [some (eR a0), some (eI (a1)), some (eI (a2)), some (eI (a3)), none, none], [eJ (v15)]), f :: F, μ)
                refine w_t (np := 52) (l2 := [some (eR a0), some (eI (a1)), some (eI (a2)), some (eI (a3)), some (eJ (v15)), none]) (s2 := []) rfl rfl rfl ?_
                refine w_t (np := 53) (l2 := [some (eR a0), some (eI (a1)), some (eI (a2)), some (eI (a3)), some (eJ (v15)), none]) (s2 := [eR a0]) rfl (s_an rfl (pos_g hI gA0 (by decide))) rfl ?_
                refine w_t (np := 54) (l2 := [some (eR a0), some (eI (a1)), some (eI (a2)), some (eI (a3)), some (eJ (v15)), none]) (s2 := [eI (a3), eR a0]) rfl rfl rfl ?_
                refine b_ine (t1 := 65) (t2 := 57) rfl rfl rfl (ev_w_in (by omega) (by omega)) (fun g17 => ?_) (fun g17 => ?_)
                · have b18 : 1 ≤ a3 ∧ a3 ≤ 1 := by omega
                  refine w_t (np := 67) (l2 := [some (eR a0), some (eI (a1)), some (eI (a2)), some (eI (a3)), some (eJ (v15)), none]) (s2 := [eJ (v15), eR a0]) rfl rfl rfl ?_
                  refine w_cu (np := 70) (as := [eJ (v15)]) (l2 := [some (eJ (v15)), none, none, none]) (rest := [eR a0]) rfl rfl rfl (Nat.ble_eq.mp rfl) rfl rfl rfl rfl ?_
                  refine w_t (np := 1) (l2 := [some (eJ (v15)), none, none, none]) (s2 := [eJ (v15)]) rfl rfl rfl ?_
                  refine w_t (np := 2) (l2 := [some (eJ (v15)), none, none, none]) (s2 := [eI (1), eJ (v15)]) rfl rfl rfl ?_
                  refine w_cu (np := 5) (as := [eJ (v15), eI (1)]) (l2 := [some (eJ (v15)), none, some (eI (1))]) (rest := []) rfl rfl rfl (Nat.ble_eq.mp rfl) rfl rfl rfl rfl ?_
                  refine s_73 (a2 := 1) hI b16 (by decide) ?_
                  intro v18 b19
                  show ex_q (dt_fg L ρ) rc (d + 1, (89, 5, [some (eJ (v15)), none, none, none], [eI (v18)]), (168, 70, [some (eR a0), some (eI (a1)), some (eI (a2)), some (eI (a3)), some (eJ (v15)), none], [eR a0]) :: f :: F, μ)
                  obtain ⟨v20, e21, b22⟩ := d_i2d (v18)
                  refine w_t (np := 6) (l2 := [some (eJ (v15)), none, none, none]) (s2 := [eD v20]) rfl (e21 _ _) rfl ?_
                  refine v_ld (np := 9) (c := 4603469518431668664) rfl rfl rfl ?_
                  have b23 : DB 1023 4603469518431668664 := by
                    unfold DB
                    decide
                  obtain ⟨v24, e25, b26⟩ := d_dmul (K := 1057) b22 b23 (by decide) (by decide) rfl (by decide)
                  refine w_t (np := 10) (l2 := [some (eJ (v15)), none, none, none]) (s2 := [eD v24]) rfl (e25 _ _) rfl ?_
                  refine w_t (np := 11) (l2 := [some (eJ (v15)), none, some (eD v24), none]) (s2 := []) rfl rfl rfl ?_
                  refine w_t (np := 12) (l2 := [some (eJ (v15)), none, some (eD v24), none]) (s2 := [eD v24]) rfl rfl rfl ?_
                  refine w_t (np := 13) (l2 := [some (eJ (v15)), none, some (eD v24), none]) (s2 := [eJ (v15), eD v24]) rfl rfl rfl ?_
                  refine w_t (np := 14) (l2 := [some (eJ (v15)), none, some (eD v24), none]) (s2 := [eI (2), eJ (v15), eD v24]) rfl rfl rfl ?_
                  refine w_cu (np := 17) (as := [eJ (v15), eI (2)]) (l2 := [some (eJ (v15)), none, some (eI (2))]) (rest := [eD v24]) rfl rfl rfl (Nat.ble_eq.mp rfl) rfl rfl rfl rfl ?_
                  refine s_73 (a2 := 2) hI b16 (by decide) ?_
                  intro v27 b28
                  show ex_q (dt_fg L ρ) rc (d + 1, (89, 17, [some (eJ (v15)), none, some (eD v24), none], [eI (v27), eD v24]), (168, 70, [some (eR a0), some (eI (a1)), some (eI (a2)), some (eI (a3)), some (eJ (v15)), none], [eR a0]) :: f :: F, μ)
                  obtain ⟨v29, e30, b31⟩ := d_i2d (v27)
                  refine w_t (np := 18) (l2 := [some (eJ (v15)), none, some (eD v24), none]) (s2 := [eD v29, eD v24]) rfl (e30 _ _) rfl ?_
                  refine v_ld (np := 21) (c := 4606741575090065304) rfl rfl rfl ?_
                  have b32 : DB 1023 4606741575090065304 := by
                    unfold DB
                    decide
                  obtain ⟨v33, e34, b35⟩ := d_dmul (K := 1057) b31 b32 (by decide) (by decide) rfl (by decide)
                  refine w_t (np := 22) (l2 := [some (eJ (v15)), none, some (eD v24), none]) (s2 := [eD v33, eD v24]) rfl (e34 _ _) rfl ?_
                  obtain ⟨v36, e37, b38⟩ := d_dadd (K := 1057) (K2 := 1059) (b26.up (by decide)) (b35.up (by decide)) (by decide) rfl
                  refine w_t (np := 23) (l2 := [some (eJ (v15)), none, some (eD v24), none]) (s2 := [eD v36]) rfl (e37 _ _) rfl ?_
                  refine w_t (np := 24) (l2 := [some (eJ (v15)), none, some (eD v36), none]) (s2 := []) rfl rfl rfl ?_
                  refine w_t (np := 25) (l2 := [some (eJ (v15)), none, some (eD v36), none]) (s2 := [eD v36]) rfl rfl rfl ?_
                  refine w_t (np := 26) (l2 := [some (eJ (v15)), none, some (eD v36), none]) (s2 := [eJ (v15), eD v36]) rfl rfl rfl ?_
                  refine w_t (np := 27) (l2 := [some (eJ (v15)), none, some (eD v36), none]) (s2 := [eI (3), eJ (v15), eD v36]) rfl rfl rfl ?_
                  refine w_cu (np := 30) (as := [eJ (v15), eI (3)]) (l2 := [some (eJ (v15)), none, some (eI (3))]) (rest := [eD v36]) rfl rfl rfl (Nat.ble_eq.mp rfl) rfl rfl rfl rfl ?_
                  refine s_73 (a2 := 3) hI b16 (by decide) ?_
                  intro v39 b40
                  show ex_q (dt_fg L ρ) rc (d + 1, (89, 30, [some (eJ (v15)), none, some (eD v36), none], [eI (v39), eD v36]), (168, 70, [some (eR a0), some (eI (a1)), some (eI (a2)), some (eI (a3)), some (eJ (v15)), none], [eR a0]) :: f :: F, μ)
                  obtain ⟨v41, e42, b43⟩ := d_i2d (v39)
                  refine w_t (np := 31) (l2 := [some (eJ (v15)), none, some (eD v36), none]) (s2 := [eD v41, eD v36]) rfl (e42 _ _) rfl ?_
                  refine v_ld (np := 34) (c := 4606741575090065304) rfl rfl rfl ?_
                  have b44 : DB 1023 4606741575090065304 := by
                    unfold DB
                    decide
                  obtain ⟨v45, e46, b47⟩ := d_dmul (K := 1057) b43 b44 (by decide) (by decide) rfl (by decide)
                  refine w_t (np := 35) (l2 := [some (eJ (v15)), none, some (eD v36), none]) (s2 := [eD v45, eD v36]) rfl (e46 _ _) rfl ?_
                  obtain ⟨v48, e49, b50⟩ := d_dadd (K := 1059) (K2 := 1061) (b38.up (by decide)) (b47.up (by decide)) (by decide) rfl
                  refine w_t (np := 36) (l2 := [some (eJ (v15)), none, some (eD v36), none]) (s2 := [eD v48]) rfl (e49 _ _) rfl ?_
                  refine b_rd rfl rfl ?_
                  show ex_q (dt_fg L ρ) rc (d + 2, (168, 70, [some (eR a0), some (eI (a1)), some (eI (a2)), some (eI (a3)), some (eJ (v15)), none], [eD v48, eR a0]), f :: F, μ)
                  obtain ⟨v51, e52, b53⟩ := d_d2f b50 (by decide)
                  refine w_t (np := 71) (l2 := [some (eR a0), some (eI (a1)), some (eI (a2)), some (eI (a3)), some (eJ (v15)), none]) (s2 := [eF v51, eR a0]) rfl (e52 _ _) rfl ?_
                  refine w_cu (np := 74) (as := [eF v51]) (l2 := [some (eF v51), none, none, none, none]) (rest := [eR a0]) rfl rfl rfl (Nat.ble_eq.mp rfl) rfl rfl rfl rfl ?_
                  refine s_90 hI b53 ?_
                  intro v54 b55
                  show ex_q (dt_fg L ρ) rc (d + 2, (168, 74, [some (eR a0), some (eI (a1)), some (eI (a2)), some (eI (a3)), some (eJ (v15)), none], [eI (v54), eR a0]), f :: F, μ)
                  refine w_cw (np := 77) (as := [eI (v54)]) (l2 := [some (eR a0), some (eI (v54))]) (rest := []) rfl rfl rfl (Nat.ble_eq.mp rfl) rfl rfl rfl (hI.kd gA0 (by decide) (n := 14) rfl) rfl ?_
                  refine w_t (np := 1) (l2 := [some (eR a0), some (eI (v54))]) (s2 := [eR a0]) rfl (s_an rfl (pos_g hI gA0 (by decide))) rfl ?_
                  refine w_t (np := 2) (l2 := [some (eR a0), some (eI (v54))]) (s2 := [eI (0), eR a0]) rfl rfl rfl ?_
                  refine j_pf (np := 5) (w := 0) rfl rfl hI gA0 (by decide) (n := 14) rfl rfl (hO_i (lo := -2147483648) (hi := 2147483647) rfl (by decide)) ?_
                  intro m56 I57 W58
                  have F59 : Fr l_168 0 0 g μ m56 := F0.w W58 gA0 rfl
                  refine w_t (np := 6) (l2 := [some (eR a0), some (eI (v54))]) (s2 := [eI (v54)]) rfl rfl rfl ?_
                  refine b_ri rfl rfl ?_
                  show ex_q (dt_fg L ρ) rc (d + 2, (168, 77, [some (eR a0), some (eI (a1)), some (eI (a2)), some (eI (a3)), some (eJ (v15)), none], [eI (v54)]), f :: F, m56)
                  exact b_ri rfl rfl (K m56 (v54) I57 F59 (by omega))
                · have b18 : 0 ≤ a3 ∧ a3 ≤ 0 := by omega
                  refine w_t (np := 59) (l2 := [some (eR a0), some (eI (a1)), some (eI (a2)), some (eI (a3)), some (eJ (v15)), none]) (s2 := [eJ (v15), eR a0]) rfl rfl rfl ?_
                  refine w_cu (np := 62) (as := [eJ (v15)]) (l2 := [some (eJ (v15)), none, none, none]) (rest := [eR a0]) rfl rfl rfl (Nat.ble_eq.mp rfl) rfl rfl rfl rfl ?_
                  refine w_t (np := 1) (l2 := [some (eJ (v15)), none, none, none]) (s2 := [eJ (v15)]) rfl rfl rfl ?_
                  refine w_t (np := 2) (l2 := [some (eJ (v15)), none, none, none]) (s2 := [eI (0), eJ (v15)]) rfl rfl rfl ?_
                  refine w_cu (np := 5) (as := [eJ (v15), eI (0)]) (l2 := [some (eJ (v15)), none, some (eI (0))]) (rest := []) rfl rfl rfl (Nat.ble_eq.mp rfl) rfl rfl rfl rfl ?_
                  refine s_73 (a2 := 0) hI b16 (by decide) ?_
                  intro v18 b19
                  show ex_q (dt_fg L ρ) rc (d + 1, (88, 5, [some (eJ (v15)), none, none, none], [eI (v18)]), (168, 62, [some (eR a0), some (eI (a1)), some (eI (a2)), some (eI (a3)), some (eJ (v15)), none], [eR a0]) :: f :: F, μ)
                  obtain ⟨v20, e21, b22⟩ := d_i2d (v18)
                  refine w_t (np := 6) (l2 := [some (eJ (v15)), none, none, none]) (s2 := [eD v20]) rfl (e21 _ _) rfl ?_
                  refine w_t (np := 7) (l2 := [some (eJ (v15)), none, some (eD v20), none]) (s2 := []) rfl rfl rfl ?_
                  refine w_t (np := 8) (l2 := [some (eJ (v15)), none, some (eD v20), none]) (s2 := [eD v20]) rfl rfl rfl ?_
                  refine w_t (np := 9) (l2 := [some (eJ (v15)), none, some (eD v20), none]) (s2 := [eJ (v15), eD v20]) rfl rfl rfl ?_
                  refine w_t (np := 10) (l2 := [some (eJ (v15)), none, some (eD v20), none]) (s2 := [eI (1), eJ (v15), eD v20]) rfl rfl rfl ?_
                  refine w_cu (np := 13) (as := [eJ (v15), eI (1)]) (l2 := [some (eJ (v15)), none, some (eI (1))]) (rest := [eD v20]) rfl rfl rfl (Nat.ble_eq.mp rfl) rfl rfl rfl rfl ?_
                  refine s_73 (a2 := 1) hI b16 (by decide) ?_
                  intro v23 b24
                  show ex_q (dt_fg L ρ) rc (d + 1, (88, 13, [some (eJ (v15)), none, some (eD v20), none], [eI (v23), eD v20]), (168, 62, [some (eR a0), some (eI (a1)), some (eI (a2)), some (eI (a3)), some (eJ (v15)), none], [eR a0]) :: f :: F, μ)
                  obtain ⟨v25, e26, b27⟩ := d_i2d (v23)
                  refine w_t (np := 14) (l2 := [some (eJ (v15)), none, some (eD v20), none]) (s2 := [eD v25, eD v20]) rfl (e26 _ _) rfl ?_
                  refine v_ld (np := 17) (c := 4605462196814083713) rfl rfl rfl ?_
                  have b28 : DB 1023 4605462196814083713 := by
                    unfold DB
                    decide
                  obtain ⟨v29, e30, b31⟩ := d_dmul (K := 1057) b27 b28 (by decide) (by decide) rfl (by decide)
                  refine w_t (np := 18) (l2 := [some (eJ (v15)), none, some (eD v20), none]) (s2 := [eD v29, eD v20]) rfl (e30 _ _) rfl ?_
                  obtain ⟨v32, e33, b34⟩ := d_dadd (K := 1057) (K2 := 1059) (b22.up (by decide)) (b31.up (by decide)) (by decide) rfl
                  refine w_t (np := 19) (l2 := [some (eJ (v15)), none, some (eD v20), none]) (s2 := [eD v32]) rfl (e33 _ _) rfl ?_
                  refine w_t (np := 20) (l2 := [some (eJ (v15)), none, some (eD v32), none]) (s2 := []) rfl rfl rfl ?_
                  refine w_t (np := 21) (l2 := [some (eJ (v15)), none, some (eD v32), none]) (s2 := [eD v32]) rfl rfl rfl ?_
                  refine w_t (np := 22) (l2 := [some (eJ (v15)), none, some (eD v32), none]) (s2 := [eJ (v15), eD v32]) rfl rfl rfl ?_
                  refine w_t (np := 23) (l2 := [some (eJ (v15)), none, some (eD v32), none]) (s2 := [eI (2), eJ (v15), eD v32]) rfl rfl rfl ?_
                  refine w_cu (np := 26) (as := [eJ (v15), eI (2)]) (l2 := [some (eJ (v15)), none, some (eI (2))]) (rest := [eD v32]) rfl rfl rfl (Nat.ble_eq.mp rfl) rfl rfl rfl rfl ?_
                  refine s_73 (a2 := 2) hI b16 (by decide) ?_
                  intro v35 b36
                  show ex_q (dt_fg L ρ) rc (d + 1, (88, 26, [some (eJ (v15)), none, some (eD v32), none], [eI (v35), eD v32]), (168, 62, [some (eR a0), some (eI (a1)), some (eI (a2)), some (eI (a3)), some (eJ (v15)), none], [eR a0]) :: f :: F, μ)
                  obtain ⟨v37, e38, b39⟩ := d_i2d (v35)
                  refine w_t (np := 27) (l2 := [some (eJ (v15)), none, some (eD v32), none]) (s2 := [eD v37, eD v32]) rfl (e38 _ _) rfl ?_
                  refine v_ld (np := 30) (c := 4599238375200779523) rfl rfl rfl ?_
                  have b40 : DB 1022 4599238375200779523 := by
                    unfold DB
                    decide
                  obtain ⟨v41, e42, b43⟩ := d_dmul (K := 1056) b39 b40 (by decide) (by decide) rfl (by decide)
                  refine w_t (np := 31) (l2 := [some (eJ (v15)), none, some (eD v32), none]) (s2 := [eD v41, eD v32]) rfl (e42 _ _) rfl ?_
                  obtain ⟨v44, e45, b46⟩ := d_dadd (K := 1059) (K2 := 1061) (b34.up (by decide)) (b43.up (by decide)) (by decide) rfl
                  refine w_t (np := 32) (l2 := [some (eJ (v15)), none, some (eD v32), none]) (s2 := [eD v44]) rfl (e45 _ _) rfl ?_
                  refine w_t (np := 33) (l2 := [some (eJ (v15)), none, some (eD v44), none]) (s2 := []) rfl rfl rfl ?_
                  refine w_t (np := 34) (l2 := [some (eJ (v15)), none, some (eD v44), none]) (s2 := [eD v44]) rfl rfl rfl ?_
                  refine w_t (np := 35) (l2 := [some (eJ (v15)), none, some (eD v44), none]) (s2 := [eJ (v15), eD v44]) rfl rfl rfl ?_
                  refine w_t (np := 36) (l2 := [some (eJ (v15)), none, some (eD v44), none]) (s2 := [eI (3), eJ (v15), eD v44]) rfl rfl rfl ?_
                  refine w_cu (np := 39) (as := [eJ (v15), eI (3)]) (l2 := [some (eJ (v15)), none, some (eI (3))]) (rest := [eD v44]) rfl rfl rfl (Nat.ble_eq.mp rfl) rfl rfl rfl rfl ?_
                  refine s_73 (a2 := 3) hI b16 (by decide) ?_
                  intro v47 b48
                  show ex_q (dt_fg L ρ) rc (d + 1, (88, 39, [some (eJ (v15)), none, some (eD v44), none], [eI (v47), eD v44]), (168, 62, [some (eR a0), some (eI (a1)), some (eI (a2)), some (eI (a3)), some (eJ (v15)), none], [eR a0]) :: f :: F, μ)
                  obtain ⟨v49, e50, b51⟩ := d_i2d (v47)
                  refine w_t (np := 40) (l2 := [some (eJ (v15)), none, some (eD v44), none]) (s2 := [eD v49, eD v44]) rfl (e50 _ _) rfl ?_
                  refine v_ld (np := 43) (c := 4599238375200779523) rfl rfl rfl ?_
                  have b52 : DB 1022 4599238375200779523 := by
                    unfold DB
                    decide
                  obtain ⟨v53, e54, b55⟩ := d_dmul (K := 1056) b51 b52 (by decide) (by decide) rfl (by decide)
                  refine w_t (np := 44) (l2 := [some (eJ (v15)), none, some (eD v44), none]) (s2 := [eD v53, eD v44]) rfl (e54 _ _) rfl ?_
                  obtain ⟨v56, e57, b58⟩ := d_dsub (K := 1061) (K2 := 1063) (b46.up (by decide)) (b55.up (by decide)) (by decide) rfl
                  refine w_t (np := 45) (l2 := [some (eJ (v15)), none, some (eD v44), none]) (s2 := [eD v56]) rfl (e57 _ _) rfl ?_
                  refine b_rd rfl rfl ?_
                  show ex_q (dt_fg L ρ) rc (d + 2, (168, 62, [some (eR a0), some (eI (a1)), some (eI (a2)), some (eI (a3)), some (eJ (v15)), none], [eD v56, eR a0]), f :: F, μ)
                  refine w_go (t1 := 70) rfl rfl ?_
                  obtain ⟨v59, e60, b61⟩ := d_d2f b58 (by decide)
                  refine w_t (np := 71) (l2 := [some (eR a0), some (eI (a1)), some (eI (a2)), some (eI (a3)), some (eJ (v15)), none]) (s2 := [eF v59, eR a0]) rfl (e60 _ _) rfl ?_
                  refine w_cu (np := 74) (as := [eF v59]) (l2 := [some (eF v59), none, none, none, none]) (rest := [eR a0]) rfl rfl rfl (Nat.ble_eq.mp rfl) rfl rfl rfl rfl ?_
                  refine s_90 hI b61 ?_
                  intro v62 b63
                  show ex_q (dt_fg L ρ) rc (d + 2, (168, 74, [some (eR a0), some (eI (a1)), some (eI (a2)), some (eI (a3)), some (eJ (v15)), none], [eI (v62), eR a0]), f :: F, μ)
                  refine w_cw (np := 77) (as := [eI (v62)]) (l2 := [some (eR a0), some (eI (v62))]) (rest := []) rfl rfl rfl (Nat.ble_eq.mp rfl) rfl rfl rfl (hI.kd gA0 (by decide) (n := 14) rfl) rfl ?_
                  refine w_t (np := 1) (l2 := [some (eR a0), some (eI (v62))]) (s2 := [eR a0]) rfl (s_an rfl (pos_g hI gA0 (by decide))) rfl ?_
                  refine w_t (np := 2) (l2 := [some (eR a0), some (eI (v62))]) (s2 := [eI (0), eR a0]) rfl rfl rfl ?_
                  refine j_pf (np := 5) (w := 0) rfl rfl hI gA0 (by decide) (n := 14) rfl rfl (hO_i (lo := -2147483648) (hi := 2147483647) rfl (by decide)) ?_
                  intro m64 I65 W66
                  have F67 : Fr l_168 0 0 g μ m64 := F0.w W66 gA0 rfl
                  refine w_t (np := 6) (l2 := [some (eR a0), some (eI (v62))]) (s2 := [eI (v62)]) rfl rfl rfl ?_
                  refine b_ri rfl rfl ?_
                  show ex_q (dt_fg L ρ) rc (d + 2, (168, 77, [some (eR a0), some (eI (a1)), some (eI (a2)), some (eI (a3)), some (eJ (v15)), none], [eI (v62)]), f :: F, m64)
                  exact b_ri rfl rfl (K m64 (v62) I65 F67 (by omega))
              · refine w_t (np := 13) (l2 := [some (eR v5), some (eI (a1))]) (s2 := [eI (1)]) rfl rfl rfl ?_
                refine w_go (t1 := 17) rfl rfl ?_
                refine b_rz rfl rfl (Or.inr rfl) ?_
                show ex_q (dt_fg L ρ) rc (d + 2, (168, 32, [some (eR a0), some (eI (a1)), some (eI (a2)), some (eI (a3)), none, none], [eI (1)]), f :: F, μ)
                refine b_ieq (t1 := 41) (t2 := 35) rfl rfl rfl rfl (fun g14 => absurd g14 (by decide)) (fun g14 => ?_)
                refine w_t (np := 36) (l2 := [some (eR a0), some (eI (a1)), some (eI (a2)), some (eI (a3)), none, none]) (s2 := [eR a0]) rfl (s_an rfl (pos_g hI gA0 (by decide))) rfl ?_
                refine w_t (np := 37) (l2 := [some (eR a0), some (eI (a1)), some (eI (a2)), some (eI (a3)), none, none]) (s2 := [eI (2), eR a0]) rfl rfl rfl ?_
                refine w_cw (np := 40) (as := [eI (2)]) (l2 := [some (eR a0), some (eI (2))]) (rest := []) rfl rfl rfl (Nat.ble_eq.mp rfl) rfl rfl rfl (hI.kd gA0 (by decide) (n := 14) rfl) rfl ?_
                refine w_t (np := 1) (l2 := [some (eR a0), some (eI (2))]) (s2 := [eR a0]) rfl (s_an rfl (pos_g hI gA0 (by decide))) rfl ?_
                refine w_t (np := 2) (l2 := [some (eR a0), some (eI (2))]) (s2 := [eI (2), eR a0]) rfl rfl rfl ?_
                refine j_pf (np := 5) (w := 2) rfl rfl hI gA0 (by decide) (n := 14) rfl rfl (hO_i (lo := -2147483648) (hi := 2147483647) rfl (by decide)) ?_
                intro m15 I16 W17
                have F18 : Fr l_168 0 0 g μ m15 := F0.w W17 gA0 rfl
                refine w_t (np := 6) (l2 := [some (eR a0), some (eI (2))]) (s2 := [eI (-1)]) rfl rfl rfl ?_
                refine b_ri rfl rfl ?_
                show ex_q (dt_fg L ρ) rc (d + 2, (168, 40, [some (eR a0), some (eI (a1)), some (eI (a2)), some (eI (a3)), none, none], [eI (-1)]), f :: F, m15)
                exact b_ri rfl rfl (K m15 (-1) I16 F18 (by decide))
        · have b5 : 2 ≤ a3 ∧ a3 ≤ 2147483647 := by omega
          refine w_t (np := 19) (l2 := [some (eR a0), some (eI (a1)), some (eI (a2)), some (eI (a3)), none, none]) (s2 := [eR a0]) rfl (s_an rfl (pos_g hI gA0 (by decide))) rfl ?_
          refine w_t (np := 20) (l2 := [some (eR a0), some (eI (a1)), some (eI (a2)), some (eI (a3)), none, none]) (s2 := [eI (1), eR a0]) rfl rfl rfl ?_
          refine w_cw (np := 23) (as := [eI (1)]) (l2 := [some (eR a0), some (eI (1))]) (rest := []) rfl rfl rfl (Nat.ble_eq.mp rfl) rfl rfl rfl (hI.kd gA0 (by decide) (n := 14) rfl) rfl ?_
          refine w_t (np := 1) (l2 := [some (eR a0), some (eI (1))]) (s2 := [eR a0]) rfl (s_an rfl (pos_g hI gA0 (by decide))) rfl ?_
          refine w_t (np := 2) (l2 := [some (eR a0), some (eI (1))]) (s2 := [eI (1), eR a0]) rfl rfl rfl ?_
          refine j_pf (np := 5) (w := 1) rfl rfl hI gA0 (by decide) (n := 14) rfl rfl (hO_i (lo := -2147483648) (hi := 2147483647) rfl (by decide)) ?_
          intro m5 I6 W7
          have F8 : Fr l_168 0 0 g μ m5 := F0.w W7 gA0 rfl
          refine w_t (np := 6) (l2 := [some (eR a0), some (eI (1))]) (s2 := [eI (-1)]) rfl rfl rfl ?_
          refine b_ri rfl rfl ?_
          show ex_q (dt_fg L ρ) rc (d + 2, (168, 23, [some (eR a0), some (eI (a1)), some (eI (a2)), some (eI (a3)), none, none], [eI (-1)]), f :: F, m5)
          exact b_ri rfl rfl (K m5 (-1) I6 F8 (by decide))
