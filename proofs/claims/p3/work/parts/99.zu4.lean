/-! THE REFERENCE: found, turnedPoint, like -/
def l_235 : List Nat := [13342]
theorem s_235 {L : Nat} {ρ : Nat → Int} {rc : eQ} {d : Nat} {f : eFr} {F : List eFr} {μ : eM} {g : Nat → Nat} {a0 : Nat} {a1 : Nat} (hI : SI g μ) (gA0 : g a0 = 52) (gA1 : g a1 = 78) (h_FS : FS g μ) (K : ∀ (μ2 : eM) (v : Int), SI g μ2 → Fr l_235 0 0 g μ μ2 → (-1 ≤ v ∧ v ≤ 2669) → ex_q (dt_fg L ρ) rc (d + 1, (f.1, f.2.1, f.2.2.1, eI v :: f.2.2.2), F, μ2)) : ex_q (dt_fg L ρ) rc (d, (235, 0, [some (eR a0), some (eR a1), some (eI (0)), none, none, none], []), f :: F, μ) := by
  have F0 : Fr l_235 0 0 g μ μ := Fr.r
  obtain ⟨v1, e2, b3, z4⟩ := hI.ref (k := 21) gA0 (by decide) (n := 69) rfl (by decide) rfl
  have b3 : g v1 = 63 := Nat.eq_of_beq_eq_true b3
  obtain ⟨q0, hq0, hq1⟩ := h_FS v1 b3
  refine w_t (np := 1) (l2 := [some (eR a0), some (eR a1), some (eI (0)), none, none, none]) (s2 := [eR a1]) rfl (s_an rfl (pos_g hI gA1 (by decide))) rfl ?_
  refine w_t (np := 2) (l2 := [some (eR a0), some (eR a1), some (eI (0)), none, none, none]) (s2 := [eI (0), eR a1]) rfl rfl rfl ?_
  refine j_al (np := 3) rfl rfl hI gA1 (by decide) (n := 4) rfl rfl (lo := -2147483648) (hi := 2147483647) (fun _ => rfl) (by decide) (by decide) ?_
  intro v5 e6 b7
  refine w_t (np := 5) (l2 := [some (eR a0), some (eR a1), some (eI (0)), none, none, none]) (s2 := [eI (31), eI (v5)]) rfl rfl rfl ?_
  obtain ⟨v8, e9, b10⟩ : ∃ zz : Int, ev_w ((v5) * (31)) = zz ∧ (-2147483648 ≤ zz ∧ zz ≤ 2147483647) := ⟨_, rfl, hw_bd _⟩
  refine w_t (np := 6) (l2 := [some (eR a0), some (eR a1), some (eI (0)), none, none, none]) (s2 := [eI (v8)]) rfl (b_imul e9) rfl ?_
  refine w_t (np := 7) (l2 := [some (eR a0), some (eR a1), some (eI (0)), none, none, none]) (s2 := [eR a1, eI (v8)]) rfl (s_an rfl (pos_g hI gA1 (by decide))) rfl ?_
  refine w_t (np := 8) (l2 := [some (eR a0), some (eR a1), some (eI (0)), none, none, none]) (s2 := [eI (0), eR a1, eI (v8)]) rfl rfl rfl ?_
  refine w_t (np := 9) (l2 := [some (eR a0), some (eR a1), some (eI (0)), none, none, none]) (s2 := [eI (1), eI (0), eR a1, eI (v8)]) rfl rfl rfl ?_
  refine w_t (np := 10) (l2 := [some (eR a0), some (eR a1), some (eI (0)), none, none, none]) (s2 := [eI (1), eR a1, eI (v8)]) rfl (b_iadd rfl) rfl ?_
  refine j_al (np := 11) rfl rfl hI gA1 (by decide) (n := 4) rfl rfl (lo := -2147483648) (hi := 2147483647) (fun _ => rfl) (by decide) (by decide) ?_
  intro v11 e12 b13
  obtain ⟨v14, e15, b16⟩ : ∃ zz : Int, ev_w ((v8) + (v11)) = zz ∧ (-2147483648 ≤ zz ∧ zz ≤ 2147483647) := ⟨_, rfl, hw_bd _⟩
  refine w_t (np := 12) (l2 := [some (eR a0), some (eR a1), some (eI (0)), none, none, none]) (s2 := [eI (v14)]) rfl (b_iadd e15) rfl ?_
  refine w_t (np := 13) (l2 := [some (eR a0), some (eR a1), some (eI (0)), some (eI (v14)), none, none]) (s2 := []) rfl rfl rfl ?_
  refine w_t (np := 14) (l2 := [some (eR a0), some (eR a1), some (eI (0)), some (eI (v14)), none, none]) (s2 := [eI (v14)]) rfl rfl rfl ?_
  refine w_t (np := 16) (l2 := [some (eR a0), some (eR a1), some (eI (0)), some (eI (v14)), none, none]) (s2 := [eI (31), eI (v14)]) rfl rfl rfl ?_
  obtain ⟨v17, e18, b19⟩ : ∃ zz : Int, ev_w ((v14) * (31)) = zz ∧ (-2147483648 ≤ zz ∧ zz ≤ 2147483647) := ⟨_, rfl, hw_bd _⟩
  refine w_t (np := 17) (l2 := [some (eR a0), some (eR a1), some (eI (0)), some (eI (v14)), none, none]) (s2 := [eI (v17)]) rfl (b_imul e18) rfl ?_
  refine w_t (np := 18) (l2 := [some (eR a0), some (eR a1), some (eI (0)), some (eI (v14)), none, none]) (s2 := [eR a1, eI (v17)]) rfl (s_an rfl (pos_g hI gA1 (by decide))) rfl ?_
  refine w_t (np := 19) (l2 := [some (eR a0), some (eR a1), some (eI (0)), some (eI (v14)), none, none]) (s2 := [eI (0), eR a1, eI (v17)]) rfl rfl rfl ?_
  refine w_t (np := 20) (l2 := [some (eR a0), some (eR a1), some (eI (0)), some (eI (v14)), none, none]) (s2 := [eI (2), eI (0), eR a1, eI (v17)]) rfl rfl rfl ?_
  refine w_t (np := 21) (l2 := [some (eR a0), some (eR a1), some (eI (0)), some (eI (v14)), none, none]) (s2 := [eI (2), eR a1, eI (v17)]) rfl (b_iadd rfl) rfl ?_
  refine j_al (np := 22) rfl rfl hI gA1 (by decide) (n := 4) rfl rfl (lo := -2147483648) (hi := 2147483647) (fun _ => rfl) (by decide) (by decide) ?_
  intro v20 e21 b22
  obtain ⟨v23, e24, b25⟩ : ∃ zz : Int, ev_w ((v17) + (v20)) = zz ∧ (-2147483648 ≤ zz ∧ zz ≤ 2147483647) := ⟨_, rfl, hw_bd _⟩
  refine w_t (np := 23) (l2 := [some (eR a0), some (eR a1), some (eI (0)), some (eI (v14)), none, none]) (s2 := [eI (v23)]) rfl (b_iadd e24) rfl ?_
  refine w_t (np := 25) (l2 := [some (eR a0), some (eR a1), some (eI (0)), some (eI (v14)), none, none]) (s2 := [eI (31), eI (v23)]) rfl rfl rfl ?_
  obtain ⟨v26, e27, b28⟩ : ∃ zz : Int, ev_w ((v23) * (31)) = zz ∧ (-2147483648 ≤ zz ∧ zz ≤ 2147483647) := ⟨_, rfl, hw_bd _⟩
  refine w_t (np := 26) (l2 := [some (eR a0), some (eR a1), some (eI (0)), some (eI (v14)), none, none]) (s2 := [eI (v26)]) rfl (b_imul e27) rfl ?_
  refine w_t (np := 27) (l2 := [some (eR a0), some (eR a1), some (eI (0)), some (eI (v14)), none, none]) (s2 := [eR a1, eI (v26)]) rfl (s_an rfl (pos_g hI gA1 (by decide))) rfl ?_
  refine w_t (np := 28) (l2 := [some (eR a0), some (eR a1), some (eI (0)), some (eI (v14)), none, none]) (s2 := [eI (0), eR a1, eI (v26)]) rfl rfl rfl ?_
  refine w_t (np := 29) (l2 := [some (eR a0), some (eR a1), some (eI (0)), some (eI (v14)), none, none]) (s2 := [eI (3), eI (0), eR a1, eI (v26)]) rfl rfl rfl ?_
  refine w_t (np := 30) (l2 := [some (eR a0), some (eR a1), some (eI (0)), some (eI (v14)), none, none]) (s2 := [eI (3), eR a1, eI (v26)]) rfl (b_iadd rfl) rfl ?_
  refine j_al (np := 31) rfl rfl hI gA1 (by decide) (n := 4) rfl rfl (lo := -2147483648) (hi := 2147483647) (fun _ => rfl) (by decide) (by decide) ?_
  intro v29 e30 b31
  obtain ⟨v32, e33, b34⟩ : ∃ zz : Int, ev_w ((v26) + (v29)) = zz ∧ (-2147483648 ≤ zz ∧ zz ≤ 2147483647) := ⟨_, rfl, hw_bd _⟩
  refine w_t (np := 32) (l2 := [some (eR a0), some (eR a1), some (eI (0)), some (eI (v14)), none, none]) (s2 := [eI (v32)]) rfl (b_iadd e33) rfl ?_
  refine w_t (np := 33) (l2 := [some (eR a0), some (eR a1), some (eI (0)), some (eI (v32)), none, none]) (s2 := []) rfl rfl rfl ?_
  refine w_t (np := 34) (l2 := [some (eR a0), some (eR a1), some (eI (0)), some (eI (v32)), none, none]) (s2 := [eI (v32)]) rfl rfl rfl ?_
  refine w_t (np := 35) (l2 := [some (eR a0), some (eR a1), some (eI (0)), some (eI (v32)), none, none]) (s2 := [eI (v32), eI (v32)]) rfl rfl rfl ?_
  refine w_t (np := 37) (l2 := [some (eR a0), some (eR a1), some (eI (0)), some (eI (v32)), none, none]) (s2 := [eI (13), eI (v32), eI (v32)]) rfl rfl rfl ?_
  obtain ⟨v35, e36, b37⟩ := h_iushr (v32) (13)
  refine w_t (np := 38) (l2 := [some (eR a0), some (eR a1), some (eI (0)), some (eI (v32)), none, none]) (s2 := [eI (v35), eI (v32)]) rfl (e36 _ _) rfl ?_
  obtain ⟨v38, e39, b40⟩ := h_ixor (v32) (v35)
  refine w_t (np := 39) (l2 := [some (eR a0), some (eR a1), some (eI (0)), some (eI (v32)), none, none]) (s2 := [eI (v38)]) rfl (e39 _ _) rfl ?_
  refine w_t (np := 42) (l2 := [some (eR a0), some (eR a1), some (eI (0)), some (eI (v32)), none, none]) (s2 := [eI (8191), eI (v38)]) rfl rfl rfl ?_
  obtain ⟨v41, e42, b43, h44⟩ := h_iandx (a := v38) (b := 8191) (by decide) (by decide)
  have b45 : 0 ≤ v41 ∧ v41 ≤ 8191 := by omega
  refine w_t (np := 43) (l2 := [some (eR a0), some (eR a1), some (eI (0)), some (eI (v32)), none, none]) (s2 := [eI (v41)]) rfl (e42 _ _) rfl ?_
  refine w_t (np := 45) (l2 := [some (eR a0), some (eR a1), some (eI (0)), some (eI (v32)), some (eI (v41)), none]) (s2 := []) rfl rfl rfl ?_
  have hL45 : ∀ (n46 : Nat) (m51 : eM) (i48 : Int) (o50 : Option eV), SI g m51 → Fr l_235 0 0 g μ m51 → (0 ≤ i48 ∧ i48 ≤ 8191) → m51.1 a0 21 = ((v1 : Nat) : Int) → m51.1 v1 q0 = -1 → m51.1 a1 0 = v5 → m51.1 a1 1 = v11 → m51.1 a1 2 = v20 → m51.1 a1 3 = v29 → FS g m51 → n46 = ((((q0 : Nat) : Int) - i48) % 8192).toNat → ex_q (dt_fg L ρ) rc (d, (235, 45, [some (eR a0), some (eR a1), some (eI (0)), some (eI (v32)), some (eI (i48)), o50], []), f :: F, m51) := by
    intro n46
    induction n46 using Nat.strongRecOn with
    | _ n46 ih47 =>
    intro m51 i48 o50 I52 F53 b49 k54 k55 k56 k57 k58 k59 p60 hn61
    refine w_t (np := 46) (l2 := [some (eR a0), some (eR a1), some (eI (0)), some (eI (v32)), some (eI (i48)), o50]) (s2 := [eR a0]) rfl (s_an rfl (pos_g I52 gA0 (by decide))) rfl ?_
    refine w_gf (np := 49) (v := eR v1) rfl rfl (I52.kd gA0 (by decide) (n := 69) rfl) (by rw [k54]; rfl) ?_
    refine w_t (np := 51) (l2 := [some (eR a0), some (eR a1), some (eI (0)), some (eI (v32)), some (eI (i48)), o50]) (s2 := [eI (i48), eR v1]) rfl rfl rfl ?_
    refine j_al (np := 52) rfl rfl I52 b3 (by decide) (n := 8192) rfl rfl (lo := -1) (hi := 2669) (fun _ => rfl) (by omega) (by omega) ?_
    intro v62 e63 b64
    refine b_ilt (t1 := 151) (t2 := 55) rfl rfl rfl (ev_w_in (by omega) (by omega)) (fun g65 => ?_) (fun g65 => ?_)
    · have b66 : -1 ≤ v62 ∧ v62 ≤ -1 := by omega
      refine w_t (np := 152) (l2 := [some (eR a0), some (eR a1), some (eI (0)), some (eI (v32)), some (eI (i48)), o50]) (s2 := [eR a0]) rfl (s_an rfl (pos_g I52 gA0 (by decide))) rfl ?_
      refine w_t (np := 154) (l2 := [some (eR a0), some (eR a1), some (eI (0)), some (eI (v32)), some (eI (i48)), o50]) (s2 := [eI (i48), eR a0]) rfl rfl rfl ?_
      refine j_pf (np := 157) (w := i48) rfl rfl I52 gA0 (by decide) (n := 69) rfl rfl (hO_i (lo := 0) (hi := 8191) rfl (by omega)) ?_
      intro m66 I67 W68
      have F69 : Fr l_235 0 0 g μ m66 := F53.w W68 gA0 rfl
      have p70 : FS g m66 := FS.fr p60 (Fr.f W68 gA0) rfl
      refine w_t (np := 158) (l2 := [some (eR a0), some (eR a1), some (eI (0)), some (eI (v32)), some (eI (i48)), o50]) (s2 := [eI (-1)]) rfl rfl rfl ?_
      exact b_ri rfl rfl (K m66 (-1) I67 F69 (by decide))
    · have b66 : 0 ≤ v62 ∧ v62 ≤ 2669 := by omega
      have h66 := FS.h e63 k55 (by omega) (by omega)
      refine w_t (np := 56) (l2 := [some (eR a0), some (eR a1), some (eI (0)), some (eI (v32)), some (eI (i48)), o50]) (s2 := [eI (4)]) rfl rfl rfl ?_
      refine w_t (np := 57) (l2 := [some (eR a0), some (eR a1), some (eI (0)), some (eI (v32)), some (eI (i48)), o50]) (s2 := [eR a0, eI (4)]) rfl (s_an rfl (pos_g I52 gA0 (by decide))) rfl ?_
      refine w_gf (np := 60) (v := eR v1) rfl rfl (I52.kd gA0 (by decide) (n := 69) rfl) (by rw [k54]; rfl) ?_
      refine w_t (np := 62) (l2 := [some (eR a0), some (eR a1), some (eI (0)), some (eI (v32)), some (eI (i48)), o50]) (s2 := [eI (i48), eR v1, eI (4)]) rfl rfl rfl ?_
      refine j_al (np := 63) rfl rfl I52 b3 (by decide) (n := 8192) rfl rfl (lo := -1) (hi := 2669) (fun _ => rfl) (by omega) (by omega) ?_
      intro v67 e68 b69
      have e68 := e68.symm.trans e63
      rw [e68]
      obtain ⟨v70, e71⟩ : ∃ zz : Int, zz = (4) * (v62) := ⟨_, rfl⟩
      have b72 : 0 ≤ v70 ∧ v70 ≤ 10676 := by omega
      refine w_t (np := 64) (l2 := [some (eR a0), some (eR a1), some (eI (0)), some (eI (v32)), some (eI (i48)), o50]) (s2 := [eI (v70)]) rfl (b_imul (by rw [← e71]; exact ev_w_in (by omega) (by omega))) rfl ?_
      refine w_t (np := 66) (l2 := [some (eR a0), some (eR a1), some (eI (0)), some (eI (v32)), some (eI (i48)), some (eI (v70))]) (s2 := []) rfl rfl rfl ?_
      refine w_t (np := 67) (l2 := [some (eR a0), some (eR a1), some (eI (0)), some (eI (v32)), some (eI (i48)), some (eI (v70))]) (s2 := [eR a0]) rfl (s_an rfl (pos_g I52 gA0 (by decide))) rfl ?_
      refine j_gr (np := 70) rfl rfl I52 gA0 (by decide) (n := 69) rfl rfl rfl ?_
      intro v73 e74 b75 z76
      have b75 : g v73 = 65 := Nat.eq_of_beq_eq_true b75
      refine w_t (np := 72) (l2 := [some (eR a0), some (eR a1), some (eI (0)), some (eI (v32)), some (eI (i48)), some (eI (v70))]) (s2 := [eI (v70), eR v73]) rfl rfl rfl ?_
      refine j_al (np := 73) rfl rfl I52 b75 (by decide) (n := 10680) rfl rfl (lo := -2147483648) (hi := 2147483647) (fun _ => rfl) (by omega) (by omega) ?_
      intro v77 e78 b79
      refine w_t (np := 74) (l2 := [some (eR a0), some (eR a1), some (eI (0)), some (eI (v32)), some (eI (i48)), some (eI (v70))]) (s2 := [eR a1, eI (v77)]) rfl (s_an rfl (pos_g I52 gA1 (by decide))) rfl ?_
      refine w_t (np := 75) (l2 := [some (eR a0), some (eR a1), some (eI (0)), some (eI (v32)), some (eI (i48)), some (eI (v70))]) (s2 := [eI (0), eR a1, eI (v77)]) rfl rfl rfl ?_
      refine j_al (np := 76) rfl rfl I52 gA1 (by decide) (n := 4) rfl rfl (lo := -2147483648) (hi := 2147483647) (fun _ => rfl) (by decide) (by decide) ?_
      intro v80 e81 b82
      have e81 := e81.symm.trans k56
      rw [e81]
      refine b_cne (t1 := 138) (t2 := 79) rfl rfl rfl (ev_w_in (by omega) (by omega)) (ev_w_in (by omega) (by omega)) (fun g83 => ?_) (fun g83 => ?_)
      · refine w_t (np := 140) (l2 := [some (eR a0), some (eR a1), some (eI (0)), some (eI (v32)), some (eI (i48)), some (eI (v70))]) (s2 := [eI (i48)]) rfl rfl rfl ?_
        refine w_t (np := 141) (l2 := [some (eR a0), some (eR a1), some (eI (0)), some (eI (v32)), some (eI (i48)), some (eI (v70))]) (s2 := [eI (1), eI (i48)]) rfl rfl rfl ?_
        obtain ⟨v84, e85⟩ : ∃ zz : Int, zz = (i48) + (1) := ⟨_, rfl⟩
        have b86 : 1 ≤ v84 ∧ v84 ≤ 8192 := by omega
        refine w_t (np := 142) (l2 := [some (eR a0), some (eR a1), some (eI (0)), some (eI (v32)), some (eI (i48)), some (eI (v70))]) (s2 := [eI (v84)]) rfl (b_iadd (by rw [← e85]; exact ev_w_in (by omega) (by omega))) rfl ?_
        refine w_t (np := 145) (l2 := [some (eR a0), some (eR a1), some (eI (0)), some (eI (v32)), some (eI (i48)), some (eI (v70))]) (s2 := [eI (8191), eI (v84)]) rfl rfl rfl ?_
        obtain ⟨v87, e88, b89, h90⟩ := h_iandx (a := v84) (b := 8191) (by decide) (by decide)
        have b91 : 0 ≤ v87 ∧ v87 ≤ 8191 := by omega
        refine w_t (np := 146) (l2 := [some (eR a0), some (eR a1), some (eI (0)), some (eI (v32)), some (eI (i48)), some (eI (v70))]) (s2 := [eI (v87)]) rfl (e88 _ _) rfl ?_
        have h92 : v87 = (v84) % 8192 := h90.trans (and_8191 ⟨by omega, by omega⟩)
        refine w_t (np := 148) (l2 := [some (eR a0), some (eR a1), some (eI (0)), some (eI (v32)), some (eI (v87)), some (eI (v70))]) (s2 := []) rfl rfl rfl ?_
        refine w_go (t1 := 45) rfl rfl ?_
        exact ih47 ((((q0 : Nat) : Int) - (v87)) % 8192).toNat (by omega) m51 (v87) (some (eI (v70))) I52 F53 (by omega) k54 k55 k56 k57 k58 k59  p60  rfl
      · refine w_t (np := 80) (l2 := [some (eR a0), some (eR a1), some (eI (0)), some (eI (v32)), some (eI (i48)), some (eI (v70))]) (s2 := [eR a0]) rfl (s_an rfl (pos_g I52 gA0 (by decide))) rfl ?_
        refine w_gf (np := 83) (v := eR v73) rfl rfl (I52.kd gA0 (by decide) (n := 69) rfl) (by rw [e74]; rfl) ?_
        refine w_t (np := 85) (l2 := [some (eR a0), some (eR a1), some (eI (0)), some (eI (v32)), some (eI (i48)), some (eI (v70))]) (s2 := [eI (v70), eR v73]) rfl rfl rfl ?_
        refine w_t (np := 86) (l2 := [some (eR a0), some (eR a1), some (eI (0)), some (eI (v32)), some (eI (i48)), some (eI (v70))]) (s2 := [eI (1), eI (v70), eR v73]) rfl rfl rfl ?_
        obtain ⟨v84, e85⟩ : ∃ zz : Int, zz = (v70) + (1) := ⟨_, rfl⟩
        have b86 : 1 ≤ v84 ∧ v84 ≤ 10677 := by omega
        refine w_t (np := 87) (l2 := [some (eR a0), some (eR a1), some (eI (0)), some (eI (v32)), some (eI (i48)), some (eI (v70))]) (s2 := [eI (v84), eR v73]) rfl (b_iadd (by rw [← e85]; exact ev_w_in (by omega) (by omega))) rfl ?_
        refine j_al (np := 88) rfl rfl I52 b75 (by decide) (n := 10680) rfl rfl (lo := -2147483648) (hi := 2147483647) (fun _ => rfl) (by omega) (by omega) ?_
        intro v87 e88 b89
        refine w_t (np := 89) (l2 := [some (eR a0), some (eR a1), some (eI (0)), some (eI (v32)), some (eI (i48)), some (eI (v70))]) (s2 := [eR a1, eI (v87)]) rfl (s_an rfl (pos_g I52 gA1 (by decide))) rfl ?_
        refine w_t (np := 90) (l2 := [some (eR a0), some (eR a1), some (eI (0)), some (eI (v32)), some (eI (i48)), some (eI (v70))]) (s2 := [eI (0), eR a1, eI (v87)]) rfl rfl rfl ?_
        refine w_t (np := 91) (l2 := [some (eR a0), some (eR a1), some (eI (0)), some (eI (v32)), some (eI (i48)), some (eI (v70))]) (s2 := [eI (1), eI (0), eR a1, eI (v87)]) rfl rfl rfl ?_
        refine w_t (np := 92) (l2 := [some (eR a0), some (eR a1), some (eI (0)), some (eI (v32)), some (eI (i48)), some (eI (v70))]) (s2 := [eI (1), eR a1, eI (v87)]) rfl (b_iadd rfl) rfl ?_
        refine j_al (np := 93) rfl rfl I52 gA1 (by decide) (n := 4) rfl rfl (lo := -2147483648) (hi := 2147483647) (fun _ => rfl) (by decide) (by decide) ?_
        intro v90 e91 b92
        have e91 := e91.symm.trans k57
        rw [e91]
        refine b_cne (t1 := 138) (t2 := 96) rfl rfl rfl (ev_w_in (by omega) (by omega)) (ev_w_in (by omega) (by omega)) (fun g93 => ?_) (fun g93 => ?_)
        · refine w_t (np := 140) (l2 := [some (eR a0), some (eR a1), some (eI (0)), some (eI (v32)), some (eI (i48)), some (eI (v70))]) (s2 := [eI (i48)]) rfl rfl rfl ?_
          refine w_t (np := 141) (l2 := [some (eR a0), some (eR a1), some (eI (0)), some (eI (v32)), some (eI (i48)), some (eI (v70))]) (s2 := [eI (1), eI (i48)]) rfl rfl rfl ?_
          obtain ⟨v94, e95⟩ : ∃ zz : Int, zz = (i48) + (1) := ⟨_, rfl⟩
          have b96 : 1 ≤ v94 ∧ v94 ≤ 8192 := by omega
          refine w_t (np := 142) (l2 := [some (eR a0), some (eR a1), some (eI (0)), some (eI (v32)), some (eI (i48)), some (eI (v70))]) (s2 := [eI (v94)]) rfl (b_iadd (by rw [← e95]; exact ev_w_in (by omega) (by omega))) rfl ?_
          refine w_t (np := 145) (l2 := [some (eR a0), some (eR a1), some (eI (0)), some (eI (v32)), some (eI (i48)), some (eI (v70))]) (s2 := [eI (8191), eI (v94)]) rfl rfl rfl ?_
          obtain ⟨v97, e98, b99, h100⟩ := h_iandx (a := v94) (b := 8191) (by decide) (by decide)
          have b101 : 0 ≤ v97 ∧ v97 ≤ 8191 := by omega
          refine w_t (np := 146) (l2 := [some (eR a0), some (eR a1), some (eI (0)), some (eI (v32)), some (eI (i48)), some (eI (v70))]) (s2 := [eI (v97)]) rfl (e98 _ _) rfl ?_
          have h102 : v97 = (v94) % 8192 := h100.trans (and_8191 ⟨by omega, by omega⟩)
          refine w_t (np := 148) (l2 := [some (eR a0), some (eR a1), some (eI (0)), some (eI (v32)), some (eI (v97)), some (eI (v70))]) (s2 := []) rfl rfl rfl ?_
          refine w_go (t1 := 45) rfl rfl ?_
          exact ih47 ((((q0 : Nat) : Int) - (v97)) % 8192).toNat (by omega) m51 (v97) (some (eI (v70))) I52 F53 (by omega) k54 k55 k56 k57 k58 k59  p60  rfl
        · refine w_t (np := 97) (l2 := [some (eR a0), some (eR a1), some (eI (0)), some (eI (v32)), some (eI (i48)), some (eI (v70))]) (s2 := [eR a0]) rfl (s_an rfl (pos_g I52 gA0 (by decide))) rfl ?_
          refine w_gf (np := 100) (v := eR v73) rfl rfl (I52.kd gA0 (by decide) (n := 69) rfl) (by rw [e74]; rfl) ?_
          refine w_t (np := 102) (l2 := [some (eR a0), some (eR a1), some (eI (0)), some (eI (v32)), some (eI (i48)), some (eI (v70))]) (s2 := [eI (v70), eR v73]) rfl rfl rfl ?_
          refine w_t (np := 103) (l2 := [some (eR a0), some (eR a1), some (eI (0)), some (eI (v32)), some (eI (i48)), some (eI (v70))]) (s2 := [eI (2), eI (v70), eR v73]) rfl rfl rfl ?_
          obtain ⟨v94, e95⟩ : ∃ zz : Int, zz = (v70) + (2) := ⟨_, rfl⟩
          have b96 : 2 ≤ v94 ∧ v94 ≤ 10678 := by omega
          refine w_t (np := 104) (l2 := [some (eR a0), some (eR a1), some (eI (0)), some (eI (v32)), some (eI (i48)), some (eI (v70))]) (s2 := [eI (v94), eR v73]) rfl (b_iadd (by rw [← e95]; exact ev_w_in (by omega) (by omega))) rfl ?_
          refine j_al (np := 105) rfl rfl I52 b75 (by decide) (n := 10680) rfl rfl (lo := -2147483648) (hi := 2147483647) (fun _ => rfl) (by omega) (by omega) ?_
          intro v97 e98 b99
          refine w_t (np := 106) (l2 := [some (eR a0), some (eR a1), some (eI (0)), some (eI (v32)), some (eI (i48)), some (eI (v70))]) (s2 := [eR a1, eI (v97)]) rfl (s_an rfl (pos_g I52 gA1 (by decide))) rfl ?_
          refine w_t (np := 107) (l2 := [some (eR a0), some (eR a1), some (eI (0)), some (eI (v32)), some (eI (i48)), some (eI (v70))]) (s2 := [eI (0), eR a1, eI (v97)]) rfl rfl rfl ?_
          refine w_t (np := 108) (l2 := [some (eR a0), some (eR a1), some (eI (0)), some (eI (v32)), some (eI (i48)), some (eI (v70))]) (s2 := [eI (2), eI (0), eR a1, eI (v97)]) rfl rfl rfl ?_
          refine w_t (np := 109) (l2 := [some (eR a0), some (eR a1), some (eI (0)), some (eI (v32)), some (eI (i48)), some (eI (v70))]) (s2 := [eI (2), eR a1, eI (v97)]) rfl (b_iadd rfl) rfl ?_
          refine j_al (np := 110) rfl rfl I52 gA1 (by decide) (n := 4) rfl rfl (lo := -2147483648) (hi := 2147483647) (fun _ => rfl) (by decide) (by decide) ?_
          intro v100 e101 b102
          have e101 := e101.symm.trans k58
          rw [e101]
          refine b_cne (t1 := 138) (t2 := 113) rfl rfl rfl (ev_w_in (by omega) (by omega)) (ev_w_in (by omega) (by omega)) (fun g103 => ?_) (fun g103 => ?_)
          · refine w_t (np := 140) (l2 := [some (eR a0), some (eR a1), some (eI (0)), some (eI (v32)), some (eI (i48)), some (eI (v70))]) (s2 := [eI (i48)]) rfl rfl rfl ?_
            refine w_t (np := 141) (l2 := [some (eR a0), some (eR a1), some (eI (0)), some (eI (v32)), some (eI (i48)), some (eI (v70))]) (s2 := [eI (1), eI (i48)]) rfl rfl rfl ?_
            obtain ⟨v104, e105⟩ : ∃ zz : Int, zz = (i48) + (1) := ⟨_, rfl⟩
            have b106 : 1 ≤ v104 ∧ v104 ≤ 8192 := by omega
            refine w_t (np := 142) (l2 := [some (eR a0), some (eR a1), some (eI (0)), some (eI (v32)), some (eI (i48)), some (eI (v70))]) (s2 := [eI (v104)]) rfl (b_iadd (by rw [← e105]; exact ev_w_in (by omega) (by omega))) rfl ?_
            refine w_t (np := 145) (l2 := [some (eR a0), some (eR a1), some (eI (0)), some (eI (v32)), some (eI (i48)), some (eI (v70))]) (s2 := [eI (8191), eI (v104)]) rfl rfl rfl ?_
            obtain ⟨v107, e108, b109, h110⟩ := h_iandx (a := v104) (b := 8191) (by decide) (by decide)
            have b111 : 0 ≤ v107 ∧ v107 ≤ 8191 := by omega
            refine w_t (np := 146) (l2 := [some (eR a0), some (eR a1), some (eI (0)), some (eI (v32)), some (eI (i48)), some (eI (v70))]) (s2 := [eI (v107)]) rfl (e108 _ _) rfl ?_
            have h112 : v107 = (v104) % 8192 := h110.trans (and_8191 ⟨by omega, by omega⟩)
            refine w_t (np := 148) (l2 := [some (eR a0), some (eR a1), some (eI (0)), some (eI (v32)), some (eI (v107)), some (eI (v70))]) (s2 := []) rfl rfl rfl ?_
            refine w_go (t1 := 45) rfl rfl ?_
            exact ih47 ((((q0 : Nat) : Int) - (v107)) % 8192).toNat (by omega) m51 (v107) (some (eI (v70))) I52 F53 (by omega) k54 k55 k56 k57 k58 k59  p60  rfl
          · refine w_t (np := 114) (l2 := [some (eR a0), some (eR a1), some (eI (0)), some (eI (v32)), some (eI (i48)), some (eI (v70))]) (s2 := [eR a0]) rfl (s_an rfl (pos_g I52 gA0 (by decide))) rfl ?_
            refine w_gf (np := 117) (v := eR v73) rfl rfl (I52.kd gA0 (by decide) (n := 69) rfl) (by rw [e74]; rfl) ?_
            refine w_t (np := 119) (l2 := [some (eR a0), some (eR a1), some (eI (0)), some (eI (v32)), some (eI (i48)), some (eI (v70))]) (s2 := [eI (v70), eR v73]) rfl rfl rfl ?_
            refine w_t (np := 120) (l2 := [some (eR a0), some (eR a1), some (eI (0)), some (eI (v32)), some (eI (i48)), some (eI (v70))]) (s2 := [eI (3), eI (v70), eR v73]) rfl rfl rfl ?_
            obtain ⟨v104, e105⟩ : ∃ zz : Int, zz = (v70) + (3) := ⟨_, rfl⟩
            have b106 : 3 ≤ v104 ∧ v104 ≤ 10679 := by omega
            refine w_t (np := 121) (l2 := [some (eR a0), some (eR a1), some (eI (0)), some (eI (v32)), some (eI (i48)), some (eI (v70))]) (s2 := [eI (v104), eR v73]) rfl (b_iadd (by rw [← e105]; exact ev_w_in (by omega) (by omega))) rfl ?_
            refine j_al (np := 122) rfl rfl I52 b75 (by decide) (n := 10680) rfl rfl (lo := -2147483648) (hi := 2147483647) (fun _ => rfl) (by omega) (by omega) ?_
            intro v107 e108 b109
            refine w_t (np := 123) (l2 := [some (eR a0), some (eR a1), some (eI (0)), some (eI (v32)), some (eI (i48)), some (eI (v70))]) (s2 := [eR a1, eI (v107)]) rfl (s_an rfl (pos_g I52 gA1 (by decide))) rfl ?_
            refine w_t (np := 124) (l2 := [some (eR a0), some (eR a1), some (eI (0)), some (eI (v32)), some (eI (i48)), some (eI (v70))]) (s2 := [eI (0), eR a1, eI (v107)]) rfl rfl rfl ?_
            refine w_t (np := 125) (l2 := [some (eR a0), some (eR a1), some (eI (0)), some (eI (v32)), some (eI (i48)), some (eI (v70))]) (s2 := [eI (3), eI (0), eR a1, eI (v107)]) rfl rfl rfl ?_
            refine w_t (np := 126) (l2 := [some (eR a0), some (eR a1), some (eI (0)), some (eI (v32)), some (eI (i48)), some (eI (v70))]) (s2 := [eI (3), eR a1, eI (v107)]) rfl (b_iadd rfl) rfl ?_
            refine j_al (np := 127) rfl rfl I52 gA1 (by decide) (n := 4) rfl rfl (lo := -2147483648) (hi := 2147483647) (fun _ => rfl) (by decide) (by decide) ?_
            intro v110 e111 b112
            have e111 := e111.symm.trans k59
            rw [e111]
            refine b_cne (t1 := 138) (t2 := 130) rfl rfl rfl (ev_w_in (by omega) (by omega)) (ev_w_in (by omega) (by omega)) (fun g113 => ?_) (fun g113 => ?_)
            · refine w_t (np := 140) (l2 := [some (eR a0), some (eR a1), some (eI (0)), some (eI (v32)), some (eI (i48)), some (eI (v70))]) (s2 := [eI (i48)]) rfl rfl rfl ?_
              refine w_t (np := 141) (l2 := [some (eR a0), some (eR a1), some (eI (0)), some (eI (v32)), some (eI (i48)), some (eI (v70))]) (s2 := [eI (1), eI (i48)]) rfl rfl rfl ?_
              obtain ⟨v114, e115⟩ : ∃ zz : Int, zz = (i48) + (1) := ⟨_, rfl⟩
              have b116 : 1 ≤ v114 ∧ v114 ≤ 8192 := by omega
              refine w_t (np := 142) (l2 := [some (eR a0), some (eR a1), some (eI (0)), some (eI (v32)), some (eI (i48)), some (eI (v70))]) (s2 := [eI (v114)]) rfl (b_iadd (by rw [← e115]; exact ev_w_in (by omega) (by omega))) rfl ?_
              refine w_t (np := 145) (l2 := [some (eR a0), some (eR a1), some (eI (0)), some (eI (v32)), some (eI (i48)), some (eI (v70))]) (s2 := [eI (8191), eI (v114)]) rfl rfl rfl ?_
              obtain ⟨v117, e118, b119, h120⟩ := h_iandx (a := v114) (b := 8191) (by decide) (by decide)
              have b121 : 0 ≤ v117 ∧ v117 ≤ 8191 := by omega
              refine w_t (np := 146) (l2 := [some (eR a0), some (eR a1), some (eI (0)), some (eI (v32)), some (eI (i48)), some (eI (v70))]) (s2 := [eI (v117)]) rfl (e118 _ _) rfl ?_
              have h122 : v117 = (v114) % 8192 := h120.trans (and_8191 ⟨by omega, by omega⟩)
              refine w_t (np := 148) (l2 := [some (eR a0), some (eR a1), some (eI (0)), some (eI (v32)), some (eI (v117)), some (eI (v70))]) (s2 := []) rfl rfl rfl ?_
              refine w_go (t1 := 45) rfl rfl ?_
              exact ih47 ((((q0 : Nat) : Int) - (v117)) % 8192).toNat (by omega) m51 (v117) (some (eI (v70))) I52 F53 (by omega) k54 k55 k56 k57 k58 k59  p60  rfl
            · refine w_t (np := 131) (l2 := [some (eR a0), some (eR a1), some (eI (0)), some (eI (v32)), some (eI (i48)), some (eI (v70))]) (s2 := [eR a0]) rfl (s_an rfl (pos_g I52 gA0 (by decide))) rfl ?_
              refine w_gf (np := 134) (v := eR v1) rfl rfl (I52.kd gA0 (by decide) (n := 69) rfl) (by rw [k54]; rfl) ?_
              refine w_t (np := 136) (l2 := [some (eR a0), some (eR a1), some (eI (0)), some (eI (v32)), some (eI (i48)), some (eI (v70))]) (s2 := [eI (i48), eR v1]) rfl rfl rfl ?_
              refine j_al (np := 137) rfl rfl I52 b3 (by decide) (n := 8192) rfl rfl (lo := -1) (hi := 2669) (fun _ => rfl) (by omega) (by omega) ?_
              intro v114 e115 b116
              have e115 := e115.symm.trans e63
              rw [e115]
              exact b_ri rfl rfl (K m51 (v62) I52 F53 (by omega))
  exact hL45 _ μ (v41) (none) hI F0 (by omega) e2 hq1 e6 e12 e21 e30  h_FS  rfl
def l_290 : List Nat := [13315, 13342, 13316, 13317, 13318, 19968]
theorem s_290 {L : Nat} {ρ : Nat → Int} {rc : eQ} {d : Nat} {f : eFr} {F : List eFr} {μ : eM} {g : Nat → Nat} {a0 : Nat} {a1 : Int} {a2 : Int} {a3 : Int} (hI : SI g μ) (gA0 : g a0 = 52) (bA1 : 0 ≤ a1 ∧ a1 ≤ 2669) (bA2 : 0 ≤ a2 ∧ a2 ≤ 9) (bA3 : -2147483648 ≤ a3 ∧ a3 ≤ 2147483647) (h_FS : FS g μ) (K : ∀ (μ2 : eM) (v : Int), SI g μ2 → Fr l_290 0 0 g μ μ2 → (-1 ≤ v ∧ v ≤ 2669) → ex_q (dt_fg L ρ) rc (d + 3, (f.1, f.2.1, f.2.2.1, eI v :: f.2.2.2), F, μ2)) : ex_q (dt_fg L ρ) rc (d + 2, (290, 0, [some (eR a0), some (eI (a1)), some (eI (a2)), some (eI (a3)), none], []), f :: F, μ) := by
  have F0 : Fr l_290 0 0 g μ μ := Fr.r
  refine w_t (np := 1) (l2 := [some (eR a0), some (eI (a1)), some (eI (a2)), some (eI (a3)), none]) (s2 := [eR a0]) rfl (s_an rfl (pos_g hI gA0 (by decide))) rfl ?_
  refine w_t (np := 2) (l2 := [some (eR a0), some (eI (a1)), some (eI (a2)), some (eI (a3)), none]) (s2 := [eR a0, eR a0]) rfl (s_an rfl (pos_g hI gA0 (by decide))) rfl ?_
  refine j_gr (np := 5) rfl rfl hI gA0 (by decide) (n := 69) rfl rfl rfl ?_
  intro v1 e2 b3 z4
  have b3 : g v1 = 65 := Nat.eq_of_beq_eq_true b3
  refine w_t (np := 6) (l2 := [some (eR a0), some (eI (a1)), some (eI (a2)), some (eI (a3)), none]) (s2 := [eI (4), eR v1, eR a0]) rfl rfl rfl ?_
  refine w_t (np := 7) (l2 := [some (eR a0), some (eI (a1)), some (eI (a2)), some (eI (a3)), none]) (s2 := [eI (a1), eI (4), eR v1, eR a0]) rfl rfl rfl ?_
  obtain ⟨v5, e6⟩ : ∃ zz : Int, zz = (4) * (a1) := ⟨_, rfl⟩
  have b7 : 0 ≤ v5 ∧ v5 ≤ 10676 := by omega
  refine w_t (np := 8) (l2 := [some (eR a0), some (eI (a1)), some (eI (a2)), some (eI (a3)), none]) (s2 := [eI (v5), eR v1, eR a0]) rfl (b_imul (by rw [← e6]; exact ev_w_in (by omega) (by omega))) rfl ?_
  refine j_al (np := 9) rfl rfl hI b3 (by decide) (n := 10680) rfl rfl (lo := -2147483648) (hi := 2147483647) (fun _ => rfl) (by omega) (by omega) ?_
  intro v8 e9 b10
  refine w_t (np := 10) (l2 := [some (eR a0), some (eI (a1)), some (eI (a2)), some (eI (a3)), none]) (s2 := [eJ (v8), eR a0]) rfl (b_i2l (ev_w_in (by omega) (by omega))) rfl ?_
  refine w_t (np := 11) (l2 := [some (eR a0), some (eI (a1)), some (eI (a2)), some (eI (a3)), none]) (s2 := [eR a0, eJ (v8), eR a0]) rfl (s_an rfl (pos_g hI gA0 (by decide))) rfl ?_
  refine w_gf (np := 14) (v := eR v1) rfl rfl (hI.kd gA0 (by decide) (n := 69) rfl) (by rw [e2]; rfl) ?_
  refine w_t (np := 15) (l2 := [some (eR a0), some (eI (a1)), some (eI (a2)), some (eI (a3)), none]) (s2 := [eI (4), eR v1, eJ (v8), eR a0]) rfl rfl rfl ?_
  refine w_t (np := 16) (l2 := [some (eR a0), some (eI (a1)), some (eI (a2)), some (eI (a3)), none]) (s2 := [eI (a1), eI (4), eR v1, eJ (v8), eR a0]) rfl rfl rfl ?_
  obtain ⟨v11, e12⟩ : ∃ zz : Int, zz = (4) * (a1) := ⟨_, rfl⟩
  have b13 : 0 ≤ v11 ∧ v11 ≤ 10676 := by omega
  refine w_t (np := 17) (l2 := [some (eR a0), some (eI (a1)), some (eI (a2)), some (eI (a3)), none]) (s2 := [eI (v11), eR v1, eJ (v8), eR a0]) rfl (b_imul (by rw [← e12]; exact ev_w_in (by omega) (by omega))) rfl ?_
  refine w_t (np := 18) (l2 := [some (eR a0), some (eI (a1)), some (eI (a2)), some (eI (a3)), none]) (s2 := [eI (1), eI (v11), eR v1, eJ (v8), eR a0]) rfl rfl rfl ?_
  obtain ⟨v14, e15⟩ : ∃ zz : Int, zz = (v11) + (1) := ⟨_, rfl⟩
  have b16 : 1 ≤ v14 ∧ v14 ≤ 10677 := by omega
  refine w_t (np := 19) (l2 := [some (eR a0), some (eI (a1)), some (eI (a2)), some (eI (a3)), none]) (s2 := [eI (v14), eR v1, eJ (v8), eR a0]) rfl (b_iadd (by rw [← e15]; exact ev_w_in (by omega) (by omega))) rfl ?_
  refine j_al (np := 20) rfl rfl hI b3 (by decide) (n := 10680) rfl rfl (lo := -2147483648) (hi := 2147483647) (fun _ => rfl) (by omega) (by omega) ?_
  intro v17 e18 b19
  refine w_t (np := 21) (l2 := [some (eR a0), some (eI (a1)), some (eI (a2)), some (eI (a3)), none]) (s2 := [eJ (v17), eJ (v8), eR a0]) rfl (b_i2l (ev_w_in (by omega) (by omega))) rfl ?_
  refine w_t (np := 22) (l2 := [some (eR a0), some (eI (a1)), some (eI (a2)), some (eI (a3)), none]) (s2 := [eR a0, eJ (v17), eJ (v8), eR a0]) rfl (s_an rfl (pos_g hI gA0 (by decide))) rfl ?_
  refine w_gf (np := 25) (v := eR v1) rfl rfl (hI.kd gA0 (by decide) (n := 69) rfl) (by rw [e2]; rfl) ?_
  refine w_t (np := 26) (l2 := [some (eR a0), some (eI (a1)), some (eI (a2)), some (eI (a3)), none]) (s2 := [eI (4), eR v1, eJ (v17), eJ (v8), eR a0]) rfl rfl rfl ?_
  refine w_t (np := 27) (l2 := [some (eR a0), some (eI (a1)), some (eI (a2)), some (eI (a3)), none]) (s2 := [eI (a1), eI (4), eR v1, eJ (v17), eJ (v8), eR a0]) rfl rfl rfl ?_
  obtain ⟨v20, e21⟩ : ∃ zz : Int, zz = (4) * (a1) := ⟨_, rfl⟩
  have b22 : 0 ≤ v20 ∧ v20 ≤ 10676 := by omega
  refine w_t (np := 28) (l2 := [some (eR a0), some (eI (a1)), some (eI (a2)), some (eI (a3)), none]) (s2 := [eI (v20), eR v1, eJ (v17), eJ (v8), eR a0]) rfl (b_imul (by rw [← e21]; exact ev_w_in (by omega) (by omega))) rfl ?_
  refine w_t (np := 29) (l2 := [some (eR a0), some (eI (a1)), some (eI (a2)), some (eI (a3)), none]) (s2 := [eI (2), eI (v20), eR v1, eJ (v17), eJ (v8), eR a0]) rfl rfl rfl ?_
  obtain ⟨v23, e24⟩ : ∃ zz : Int, zz = (v20) + (2) := ⟨_, rfl⟩
  have b25 : 2 ≤ v23 ∧ v23 ≤ 10678 := by omega
  refine w_t (np := 30) (l2 := [some (eR a0), some (eI (a1)), some (eI (a2)), some (eI (a3)), none]) (s2 := [eI (v23), eR v1, eJ (v17), eJ (v8), eR a0]) rfl (b_iadd (by rw [← e24]; exact ev_w_in (by omega) (by omega))) rfl ?_
  refine j_al (np := 31) rfl rfl hI b3 (by decide) (n := 10680) rfl rfl (lo := -2147483648) (hi := 2147483647) (fun _ => rfl) (by omega) (by omega) ?_
  intro v26 e27 b28
  refine w_t (np := 32) (l2 := [some (eR a0), some (eI (a1)), some (eI (a2)), some (eI (a3)), none]) (s2 := [eJ (v26), eJ (v17), eJ (v8), eR a0]) rfl (b_i2l (ev_w_in (by omega) (by omega))) rfl ?_
  refine w_t (np := 33) (l2 := [some (eR a0), some (eI (a1)), some (eI (a2)), some (eI (a3)), none]) (s2 := [eR a0, eJ (v26), eJ (v17), eJ (v8), eR a0]) rfl (s_an rfl (pos_g hI gA0 (by decide))) rfl ?_
  refine w_gf (np := 36) (v := eR v1) rfl rfl (hI.kd gA0 (by decide) (n := 69) rfl) (by rw [e2]; rfl) ?_
  refine w_t (np := 37) (l2 := [some (eR a0), some (eI (a1)), some (eI (a2)), some (eI (a3)), none]) (s2 := [eI (4), eR v1, eJ (v26), eJ (v17), eJ (v8), eR a0]) rfl rfl rfl ?_
  refine w_t (np := 38) (l2 := [some (eR a0), some (eI (a1)), some (eI (a2)), some (eI (a3)), none]) (s2 := [eI (a1), eI (4), eR v1, eJ (v26), eJ (v17), eJ (v8), eR a0]) rfl rfl rfl ?_
  obtain ⟨v29, e30⟩ : ∃ zz : Int, zz = (4) * (a1) := ⟨_, rfl⟩
  have b31 : 0 ≤ v29 ∧ v29 ≤ 10676 := by omega
  refine w_t (np := 39) (l2 := [some (eR a0), some (eI (a1)), some (eI (a2)), some (eI (a3)), none]) (s2 := [eI (v29), eR v1, eJ (v26), eJ (v17), eJ (v8), eR a0]) rfl (b_imul (by rw [← e30]; exact ev_w_in (by omega) (by omega))) rfl ?_
  refine w_t (np := 40) (l2 := [some (eR a0), some (eI (a1)), some (eI (a2)), some (eI (a3)), none]) (s2 := [eI (3), eI (v29), eR v1, eJ (v26), eJ (v17), eJ (v8), eR a0]) rfl rfl rfl ?_
  obtain ⟨v32, e33⟩ : ∃ zz : Int, zz = (v29) + (3) := ⟨_, rfl⟩
  have b34 : 3 ≤ v32 ∧ v32 ≤ 10679 := by omega
  refine w_t (np := 41) (l2 := [some (eR a0), some (eI (a1)), some (eI (a2)), some (eI (a3)), none]) (s2 := [eI (v32), eR v1, eJ (v26), eJ (v17), eJ (v8), eR a0]) rfl (b_iadd (by rw [← e33]; exact ev_w_in (by omega) (by omega))) rfl ?_
  refine j_al (np := 42) rfl rfl hI b3 (by decide) (n := 10680) rfl rfl (lo := -2147483648) (hi := 2147483647) (fun _ => rfl) (by omega) (by omega) ?_
  intro v35 e36 b37
  refine w_t (np := 43) (l2 := [some (eR a0), some (eI (a1)), some (eI (a2)), some (eI (a3)), none]) (s2 := [eJ (v35), eJ (v26), eJ (v17), eJ (v8), eR a0]) rfl (b_i2l (ev_w_in (by omega) (by omega))) rfl ?_
  refine w_cw (np := 46) (as := [eJ (v8), eJ (v17), eJ (v26), eJ (v35)]) (l2 := [some (eR a0), some (eJ (v8)), none, some (eJ (v17)), none, some (eJ (v26)), none, some (eJ (v35)), none]) (rest := []) rfl rfl rfl (Nat.ble_eq.mp rfl) rfl rfl rfl (hI.kd gA0 (by decide) (n := 69) rfl) rfl ?_
  refine s_219 hI gA0 (by omega) (by omega) (by omega) (by omega) ?_
  intro m38 I39 F40
  have F41 : Fr l_290 0 0 g μ m38 := F0.t F40 rfl
  have p42 : FS g m38 := FS.fr h_FS F40 rfl
  show ex_q (dt_fg L ρ) rc (d + 2, (290, 46, [some (eR a0), some (eI (a1)), some (eI (a2)), some (eI (a3)), none], []), f :: F, m38)
  refine w_t (np := 47) (l2 := [some (eR a0), some (eI (a1)), some (eI (a2)), some (eI (a3)), none]) (s2 := [eI (a3)]) rfl rfl rfl ?_
  refine b_ieq (t1 := 54) (t2 := 50) rfl rfl rfl (ev_w_in (by omega) (by omega)) (fun g43 => ?_) (fun g43 => ?_)
  · have b44 : 0 ≤ a3 ∧ a3 ≤ 0 := by omega
    refine w_t (np := 55) (l2 := [some (eR a0), some (eI (a1)), some (eI (a2)), some (eI (a3)), none]) (s2 := [eI (0)]) rfl rfl rfl ?_
    refine w_t (np := 57) (l2 := [some (eR a0), some (eI (a1)), some (eI (a2)), some (eI (a3)), some (eI (0))]) (s2 := []) rfl rfl rfl ?_
    have hL57 : ∀ (n44 : Nat) (m48 : eM) (i46 : Int), SI g m48 → Fr l_290 0 0 g μ m48 → (0 ≤ i46 ∧ i46 ≤ 9) → m48.1 a0 23 = ((v1 : Nat) : Int) → m48.1 v1 (v5).toNat = v8 → m48.1 v1 (v14).toNat = v17 → m48.1 v1 (v23).toNat = v26 → m48.1 v1 (v32).toNat = v35 → FS g m48 → n44 = (9 - i46).toNat → ex_q (dt_fg L ρ) rc (d + 2, (290, 57, [some (eR a0), some (eI (a1)), some (eI (a2)), some (eI (a3)), some (eI (i46))], []), f :: F, m48) := by
      intro n44
      induction n44 using Nat.strongRecOn with
      | _ n44 ih45 =>
      intro m48 i46 I49 F50 b47 k51 k52 k53 k54 k55 p56 hn57
      refine w_t (np := 59) (l2 := [some (eR a0), some (eI (a1)), some (eI (a2)), some (eI (a3)), some (eI (i46))]) (s2 := [eI (i46)]) rfl rfl rfl ?_
      refine w_t (np := 60) (l2 := [some (eR a0), some (eI (a1)), some (eI (a2)), some (eI (a3)), some (eI (i46))]) (s2 := [eI (a2), eI (i46)]) rfl rfl rfl ?_
      refine b_cge (t1 := 73) (t2 := 63) rfl rfl rfl (ev_w_in (by omega) (by omega)) (ev_w_in (by omega) (by omega)) (fun g58 => ?_) (fun g58 => ?_)
      · refine w_t (np := 74) (l2 := [some (eR a0), some (eI (a1)), some (eI (a2)), some (eI (a3)), some (eI (i46))]) (s2 := [eR a0]) rfl (s_an rfl (pos_g I49 gA0 (by decide))) rfl ?_
        refine w_t (np := 75) (l2 := [some (eR a0), some (eI (a1)), some (eI (a2)), some (eI (a3)), some (eI (i46))]) (s2 := [eR a0, eR a0]) rfl (s_an rfl (pos_g I49 gA0 (by decide))) rfl ?_
        refine j_gr (np := 78) rfl rfl I49 gA0 (by decide) (n := 69) rfl rfl rfl ?_
        intro v59 e60 b61 z62
        have b61 : g v59 = 78 := Nat.eq_of_beq_eq_true b61
        refine w_t (np := 79) (l2 := [some (eR a0), some (eI (a1)), some (eI (a2)), some (eI (a3)), some (eI (i46))]) (s2 := [eI (0), eR v59, eR a0]) rfl rfl rfl ?_
        refine w_t (np := 80) (l2 := [some (eR a0), some (eI (a1)), some (eI (a2)), some (eI (a3)), some (eI (i46))]) (s2 := [eR a0, eI (0), eR v59, eR a0]) rfl (s_an rfl (pos_g I49 gA0 (by decide))) rfl ?_
        refine j_gj (np := 83) rfl rfl I49 gA0 (by decide) (n := 69) rfl rfl (lo := -9223372036854775808) (hi := 9223372036854775807) rfl ?_
        intro v63 e64 b65
        obtain ⟨v66, e67, b68⟩ := h_l2i (v63)
        refine w_t (np := 84) (l2 := [some (eR a0), some (eI (a1)), some (eI (a2)), some (eI (a3)), some (eI (i46))]) (s2 := [eI (v66), eI (0), eR v59, eR a0]) rfl (e67 _ _) rfl ?_
        refine w_t (np := 85) (l2 := [some (eR a0), some (eI (a1)), some (eI (a2)), some (eI (a3)), some (eI (i46))]) (s2 := [eR a0, eI (v66), eI (0), eR v59, eR a0]) rfl (s_an rfl (pos_g I49 gA0 (by decide))) rfl ?_
        refine j_gj (np := 88) rfl rfl I49 gA0 (by decide) (n := 69) rfl rfl (lo := -9223372036854775808) (hi := 9223372036854775807) rfl ?_
        intro v69 e70 b71
        obtain ⟨v72, e73, b74⟩ := h_l2i (v69)
        refine w_t (np := 89) (l2 := [some (eR a0), some (eI (a1)), some (eI (a2)), some (eI (a3)), some (eI (i46))]) (s2 := [eI (v72), eI (v66), eI (0), eR v59, eR a0]) rfl (e73 _ _) rfl ?_
        refine w_t (np := 90) (l2 := [some (eR a0), some (eI (a1)), some (eI (a2)), some (eI (a3)), some (eI (i46))]) (s2 := [eR a0, eI (v72), eI (v66), eI (0), eR v59, eR a0]) rfl (s_an rfl (pos_g I49 gA0 (by decide))) rfl ?_
        refine j_gj (np := 93) rfl rfl I49 gA0 (by decide) (n := 69) rfl rfl (lo := -9223372036854775808) (hi := 9223372036854775807) rfl ?_
        intro v75 e76 b77
        obtain ⟨v78, e79, b80⟩ := h_l2i (v75)
        refine w_t (np := 94) (l2 := [some (eR a0), some (eI (a1)), some (eI (a2)), some (eI (a3)), some (eI (i46))]) (s2 := [eI (v78), eI (v72), eI (v66), eI (0), eR v59, eR a0]) rfl (e79 _ _) rfl ?_
        refine w_t (np := 95) (l2 := [some (eR a0), some (eI (a1)), some (eI (a2)), some (eI (a3)), some (eI (i46))]) (s2 := [eR a0, eI (v78), eI (v72), eI (v66), eI (0), eR v59, eR a0]) rfl (s_an rfl (pos_g I49 gA0 (by decide))) rfl ?_
        refine j_gj (np := 98) rfl rfl I49 gA0 (by decide) (n := 69) rfl rfl (lo := -9223372036854775808) (hi := 9223372036854775807) rfl ?_
        intro v81 e82 b83
        obtain ⟨v84, e85, b86⟩ := h_l2i (v81)
        refine w_t (np := 99) (l2 := [some (eR a0), some (eI (a1)), some (eI (a2)), some (eI (a3)), some (eI (i46))]) (s2 := [eI (v84), eI (v78), eI (v72), eI (v66), eI (0), eR v59, eR a0]) rfl (e85 _ _) rfl ?_
        refine w_cw (np := 102) (as := [eR v59, eI (0), eI (v66), eI (v72), eI (v78), eI (v84)]) (l2 := [some (eR a0), some (eR v59), some (eI (0)), some (eI (v66)), some (eI (v72)), some (eI (v78)), some (eI (v84))]) (rest := []) rfl rfl rfl (Nat.ble_eq.mp rfl) rfl rfl rfl (I49.kd gA0 (by decide) (n := 69) rfl) rfl ?_
        refine w_t (np := 1) (l2 := [some (eR a0), some (eR v59), some (eI (0)), some (eI (v66)), some (eI (v72)), some (eI (v78)), some (eI (v84))]) (s2 := [eR v59]) rfl (s_an rfl (pos_g I49 b61 (by decide))) rfl ?_
        refine w_t (np := 2) (l2 := [some (eR a0), some (eR v59), some (eI (0)), some (eI (v66)), some (eI (v72)), some (eI (v78)), some (eI (v84))]) (s2 := [eI (0), eR v59]) rfl rfl rfl ?_
        refine w_t (np := 3) (l2 := [some (eR a0), some (eR v59), some (eI (0)), some (eI (v66)), some (eI (v72)), some (eI (v78)), some (eI (v84))]) (s2 := [eI (v66), eI (0), eR v59]) rfl rfl rfl ?_
        refine j_as (np := 4) rfl rfl I49 b61 (by decide) (n := 4) rfl rfl (lo := -2147483648) (hi := 2147483647) (fun _ => rfl) (by decide) (by decide) (by omega) ?_
        intro m87 I88 W89
        have F90 : Fr l_290 0 0 g μ m87 := F50.v W89 b61 rfl rfl
        have p91 : FS g m87 := FS.fr p56 (Fr.o W89 b61 rfl) rfl
        refine w_t (np := 5) (l2 := [some (eR a0), some (eR v59), some (eI (0)), some (eI (v66)), some (eI (v72)), some (eI (v78)), some (eI (v84))]) (s2 := [eR v59]) rfl (s_an rfl (pos_g I88 b61 (by decide))) rfl ?_
        refine w_t (np := 6) (l2 := [some (eR a0), some (eR v59), some (eI (0)), some (eI (v66)), some (eI (v72)), some (eI (v78)), some (eI (v84))]) (s2 := [eI (0), eR v59]) rfl rfl rfl ?_
        refine w_t (np := 7) (l2 := [some (eR a0), some (eR v59), some (eI (0)), some (eI (v66)), some (eI (v72)), some (eI (v78)), some (eI (v84))]) (s2 := [eI (1), eI (0), eR v59]) rfl rfl rfl ?_
        refine w_t (np := 8) (l2 := [some (eR a0), some (eR v59), some (eI (0)), some (eI (v66)), some (eI (v72)), some (eI (v78)), some (eI (v84))]) (s2 := [eI (1), eR v59]) rfl (b_iadd rfl) rfl ?_
        refine w_t (np := 10) (l2 := [some (eR a0), some (eR v59), some (eI (0)), some (eI (v66)), some (eI (v72)), some (eI (v78)), some (eI (v84))]) (s2 := [eI (v72), eI (1), eR v59]) rfl rfl rfl ?_
        refine j_as (np := 11) rfl rfl I88 b61 (by decide) (n := 4) rfl rfl (lo := -2147483648) (hi := 2147483647) (fun _ => rfl) (by decide) (by decide) (by omega) ?_
        intro m92 I93 W94
        have F95 : Fr l_290 0 0 g μ m92 := F90.v W94 b61 rfl rfl
        have p96 : FS g m92 := FS.fr p91 (Fr.o W94 b61 rfl) rfl
        refine w_t (np := 12) (l2 := [some (eR a0), some (eR v59), some (eI (0)), some (eI (v66)), some (eI (v72)), some (eI (v78)), some (eI (v84))]) (s2 := [eR v59]) rfl (s_an rfl (pos_g I93 b61 (by decide))) rfl ?_
        refine w_t (np := 13) (l2 := [some (eR a0), some (eR v59), some (eI (0)), some (eI (v66)), some (eI (v72)), some (eI (v78)), some (eI (v84))]) (s2 := [eI (0), eR v59]) rfl rfl rfl ?_
        refine w_t (np := 14) (l2 := [some (eR a0), some (eR v59), some (eI (0)), some (eI (v66)), some (eI (v72)), some (eI (v78)), some (eI (v84))]) (s2 := [eI (2), eI (0), eR v59]) rfl rfl rfl ?_
        refine w_t (np := 15) (l2 := [some (eR a0), some (eR v59), some (eI (0)), some (eI (v66)), some (eI (v72)), some (eI (v78)), some (eI (v84))]) (s2 := [eI (2), eR v59]) rfl (b_iadd rfl) rfl ?_
        refine w_t (np := 17) (l2 := [some (eR a0), some (eR v59), some (eI (0)), some (eI (v66)), some (eI (v72)), some (eI (v78)), some (eI (v84))]) (s2 := [eI (v78), eI (2), eR v59]) rfl rfl rfl ?_
        refine j_as (np := 18) rfl rfl I93 b61 (by decide) (n := 4) rfl rfl (lo := -2147483648) (hi := 2147483647) (fun _ => rfl) (by decide) (by decide) (by omega) ?_
        intro m97 I98 W99
        have F100 : Fr l_290 0 0 g μ m97 := F95.v W99 b61 rfl rfl
        have p101 : FS g m97 := FS.fr p96 (Fr.o W99 b61 rfl) rfl
        refine w_t (np := 19) (l2 := [some (eR a0), some (eR v59), some (eI (0)), some (eI (v66)), some (eI (v72)), some (eI (v78)), some (eI (v84))]) (s2 := [eR v59]) rfl (s_an rfl (pos_g I98 b61 (by decide))) rfl ?_
        refine w_t (np := 20) (l2 := [some (eR a0), some (eR v59), some (eI (0)), some (eI (v66)), some (eI (v72)), some (eI (v78)), some (eI (v84))]) (s2 := [eI (0), eR v59]) rfl rfl rfl ?_
        refine w_t (np := 21) (l2 := [some (eR a0), some (eR v59), some (eI (0)), some (eI (v66)), some (eI (v72)), some (eI (v78)), some (eI (v84))]) (s2 := [eI (3), eI (0), eR v59]) rfl rfl rfl ?_
        refine w_t (np := 22) (l2 := [some (eR a0), some (eR v59), some (eI (0)), some (eI (v66)), some (eI (v72)), some (eI (v78)), some (eI (v84))]) (s2 := [eI (3), eR v59]) rfl (b_iadd rfl) rfl ?_
        refine w_t (np := 24) (l2 := [some (eR a0), some (eR v59), some (eI (0)), some (eI (v66)), some (eI (v72)), some (eI (v78)), some (eI (v84))]) (s2 := [eI (v84), eI (3), eR v59]) rfl rfl rfl ?_
        refine j_as (np := 25) rfl rfl I98 b61 (by decide) (n := 4) rfl rfl (lo := -2147483648) (hi := 2147483647) (fun _ => rfl) (by decide) (by decide) (by omega) ?_
        intro m102 I103 W104
        have F105 : Fr l_290 0 0 g μ m102 := F100.v W104 b61 rfl rfl
        have p106 : FS g m102 := FS.fr p101 (Fr.o W104 b61 rfl) rfl
        refine v_rv rfl rfl ?_
        show ex_q (dt_fg L ρ) rc (d + 2, (290, 102, [some (eR a0), some (eI (a1)), some (eI (a2)), some (eI (a3)), some (eI (i46))], []), f :: F, m102)
        refine w_t (np := 103) (l2 := [some (eR a0), some (eI (a1)), some (eI (a2)), some (eI (a3)), some (eI (i46))]) (s2 := [eR a0]) rfl (s_an rfl (pos_g I103 gA0 (by decide))) rfl ?_
        refine w_t (np := 104) (l2 := [some (eR a0), some (eI (a1)), some (eI (a2)), some (eI (a3)), some (eI (i46))]) (s2 := [eR a0, eR a0]) rfl (s_an rfl (pos_g I103 gA0 (by decide))) rfl ?_
        refine w_gf (np := 107) (v := eR v59) rfl rfl (I103.kd gA0 (by decide) (n := 69) rfl) (by rw [(W104.addr (W99.addr (W94.addr (W89.addr e60 b61 gA0 (by decide)) b61 gA0 (by decide)) b61 gA0 (by decide)) b61 gA0 (by decide))]; rfl) ?_
        refine w_t (np := 108) (l2 := [some (eR a0), some (eI (a1)), some (eI (a2)), some (eI (a3)), some (eI (i46))]) (s2 := [eI (0), eR v59, eR a0]) rfl rfl rfl ?_
        refine w_cw (np := 111) (as := [eR v59, eI (0)]) (l2 := [some (eR a0), some (eR v59), some (eI (0)), none, none, none]) (rest := []) rfl rfl rfl (Nat.ble_eq.mp rfl) rfl rfl rfl (I103.kd gA0 (by decide) (n := 69) rfl) rfl ?_
        refine s_235 I103 gA0 b61 p106 ?_
        intro m107 v110 I108 F109 b111
        have F112 : Fr l_290 0 0 g μ m107 := F105.t F109 rfl
        have p113 : FS g m107 := FS.fr p106 F109 rfl
        show ex_q (dt_fg L ρ) rc (d + 2, (290, 111, [some (eR a0), some (eI (a1)), some (eI (a2)), some (eI (a3)), some (eI (i46))], [eI (v110)]), f :: F, m107)
        exact b_ri rfl rfl (K m107 (v110) I108 F112 (by omega))
      · have b59 : 0 ≤ i46 ∧ i46 ≤ 8 := by omega
        have b60 : 1 ≤ a2 ∧ a2 ≤ 9 := by omega
        refine w_t (np := 64) (l2 := [some (eR a0), some (eI (a1)), some (eI (a2)), some (eI (a3)), some (eI (i46))]) (s2 := [eR a0]) rfl (s_an rfl (pos_g I49 gA0 (by decide))) rfl ?_
        refine w_cw (np := 67) (as := []) (l2 := [some (eR a0)]) (rest := []) rfl rfl rfl (Nat.ble_eq.mp rfl) rfl rfl rfl (I49.kd gA0 (by decide) (n := 69) rfl) rfl ?_
        refine s_220 I49 gA0 ?_
        intro m59 I60 F61
        have F62 : Fr l_290 0 0 g μ m59 := F50.t F61 rfl
        have p63 : FS g m59 := FS.fr p56 F61 rfl
        show ex_q (dt_fg L ρ) rc (d + 2, (290, 67, [some (eR a0), some (eI (a1)), some (eI (a2)), some (eI (a3)), some (eI (i46))], []), f :: F, m59)
        obtain ⟨v64, e65⟩ : ∃ zz : Int, zz = (i46) + (1) := ⟨_, rfl⟩
        have b66 : 1 ≤ v64 ∧ v64 ≤ 9 := by omega
        refine w_t (np := 70) (l2 := [some (eR a0), some (eI (a1)), some (eI (a2)), some (eI (a3)), some (eI (v64))]) (s2 := []) rfl (b_iinc rfl (by rw [← e65]; exact ev_w_in (by omega) (by omega)) rfl) rfl ?_
        refine w_go (t1 := 57) rfl rfl ?_
        exact ih45 (9 - (v64)).toNat (by omega) m59 (v64) I60 F62 (by omega) (F61.k k51 gA0 (by decide) rfl) (F61.kr k52 b3 (by decide) rfl rfl) (F61.kr k53 b3 (by decide) rfl rfl) (F61.kr k54 b3 (by decide) rfl rfl) (F61.kr k55 b3 (by decide) rfl rfl)  p63  rfl
    exact hL57 _ m38 (0) I39 F41 (by decide) (F40.k e2 gA0 (by decide) rfl) (F40.kr e9 b3 (by decide) rfl rfl) (F40.kr e18 b3 (by decide) rfl rfl) (F40.kr e27 b3 (by decide) rfl rfl) (F40.kr e36 b3 (by decide) rfl rfl)  p42  rfl
  · refine w_t (np := 51) (l2 := [some (eR a0), some (eI (a1)), some (eI (a2)), some (eI (a3)), none]) (s2 := [eR a0]) rfl (s_an rfl (pos_g I39 gA0 (by decide))) rfl ?_
    refine w_cw (np := 54) (as := []) (l2 := [some (eR a0)]) (rest := []) rfl rfl rfl (Nat.ble_eq.mp rfl) rfl rfl rfl (I39.kd gA0 (by decide) (n := 69) rfl) rfl ?_
    refine s_221 I39 gA0 ?_
    intro m44 I45 F46
    have F47 : Fr l_290 0 0 g μ m44 := F41.t F46 rfl
    have p48 : FS g m44 := FS.fr p42 F46 rfl
    show ex_q (dt_fg L ρ) rc (d + 2, (290, 54, [some (eR a0), some (eI (a1)), some (eI (a2)), some (eI (a3)), none], []), f :: F, m44)
    refine w_t (np := 55) (l2 := [some (eR a0), some (eI (a1)), some (eI (a2)), some (eI (a3)), none]) (s2 := [eI (0)]) rfl rfl rfl ?_
    refine w_t (np := 57) (l2 := [some (eR a0), some (eI (a1)), some (eI (a2)), some (eI (a3)), some (eI (0))]) (s2 := []) rfl rfl rfl ?_
    have hL57 : ∀ (n49 : Nat) (m53 : eM) (i51 : Int), SI g m53 → Fr l_290 0 0 g μ m53 → (0 ≤ i51 ∧ i51 ≤ 9) → m53.1 a0 23 = ((v1 : Nat) : Int) → m53.1 v1 (v5).toNat = v8 → m53.1 v1 (v14).toNat = v17 → m53.1 v1 (v23).toNat = v26 → m53.1 v1 (v32).toNat = v35 → FS g m53 → n49 = (9 - i51).toNat → ex_q (dt_fg L ρ) rc (d + 2, (290, 57, [some (eR a0), some (eI (a1)), some (eI (a2)), some (eI (a3)), some (eI (i51))], []), f :: F, m53) := by
      intro n49
      induction n49 using Nat.strongRecOn with
      | _ n49 ih50 =>
      intro m53 i51 I54 F55 b52 k56 k57 k58 k59 k60 p61 hn62
      refine w_t (np := 59) (l2 := [some (eR a0), some (eI (a1)), some (eI (a2)), some (eI (a3)), some (eI (i51))]) (s2 := [eI (i51)]) rfl rfl rfl ?_
      refine w_t (np := 60) (l2 := [some (eR a0), some (eI (a1)), some (eI (a2)), some (eI (a3)), some (eI (i51))]) (s2 := [eI (a2), eI (i51)]) rfl rfl rfl ?_
      refine b_cge (t1 := 73) (t2 := 63) rfl rfl rfl (ev_w_in (by omega) (by omega)) (ev_w_in (by omega) (by omega)) (fun g63 => ?_) (fun g63 => ?_)
      · refine w_t (np := 74) (l2 := [some (eR a0), some (eI (a1)), some (eI (a2)), some (eI (a3)), some (eI (i51))]) (s2 := [eR a0]) rfl (s_an rfl (pos_g I54 gA0 (by decide))) rfl ?_
        refine w_t (np := 75) (l2 := [some (eR a0), some (eI (a1)), some (eI (a2)), some (eI (a3)), some (eI (i51))]) (s2 := [eR a0, eR a0]) rfl (s_an rfl (pos_g I54 gA0 (by decide))) rfl ?_
        refine j_gr (np := 78) rfl rfl I54 gA0 (by decide) (n := 69) rfl rfl rfl ?_
        intro v64 e65 b66 z67
        have b66 : g v64 = 78 := Nat.eq_of_beq_eq_true b66
        refine w_t (np := 79) (l2 := [some (eR a0), some (eI (a1)), some (eI (a2)), some (eI (a3)), some (eI (i51))]) (s2 := [eI (0), eR v64, eR a0]) rfl rfl rfl ?_
        refine w_t (np := 80) (l2 := [some (eR a0), some (eI (a1)), some (eI (a2)), some (eI (a3)), some (eI (i51))]) (s2 := [eR a0, eI (0), eR v64, eR a0]) rfl (s_an rfl (pos_g I54 gA0 (by decide))) rfl ?_
        refine j_gj (np := 83) rfl rfl I54 gA0 (by decide) (n := 69) rfl rfl (lo := -9223372036854775808) (hi := 9223372036854775807) rfl ?_
        intro v68 e69 b70
        obtain ⟨v71, e72, b73⟩ := h_l2i (v68)
        refine w_t (np := 84) (l2 := [some (eR a0), some (eI (a1)), some (eI (a2)), some (eI (a3)), some (eI (i51))]) (s2 := [eI (v71), eI (0), eR v64, eR a0]) rfl (e72 _ _) rfl ?_
        refine w_t (np := 85) (l2 := [some (eR a0), some (eI (a1)), some (eI (a2)), some (eI (a3)), some (eI (i51))]) (s2 := [eR a0, eI (v71), eI (0), eR v64, eR a0]) rfl (s_an rfl (pos_g I54 gA0 (by decide))) rfl ?_
        refine j_gj (np := 88) rfl rfl I54 gA0 (by decide) (n := 69) rfl rfl (lo := -9223372036854775808) (hi := 9223372036854775807) rfl ?_
        intro v74 e75 b76
        obtain ⟨v77, e78, b79⟩ := h_l2i (v74)
        refine w_t (np := 89) (l2 := [some (eR a0), some (eI (a1)), some (eI (a2)), some (eI (a3)), some (eI (i51))]) (s2 := [eI (v77), eI (v71), eI (0), eR v64, eR a0]) rfl (e78 _ _) rfl ?_
        refine w_t (np := 90) (l2 := [some (eR a0), some (eI (a1)), some (eI (a2)), some (eI (a3)), some (eI (i51))]) (s2 := [eR a0, eI (v77), eI (v71), eI (0), eR v64, eR a0]) rfl (s_an rfl (pos_g I54 gA0 (by decide))) rfl ?_
        refine j_gj (np := 93) rfl rfl I54 gA0 (by decide) (n := 69) rfl rfl (lo := -9223372036854775808) (hi := 9223372036854775807) rfl ?_
        intro v80 e81 b82
        obtain ⟨v83, e84, b85⟩ := h_l2i (v80)
        refine w_t (np := 94) (l2 := [some (eR a0), some (eI (a1)), some (eI (a2)), some (eI (a3)), some (eI (i51))]) (s2 := [eI (v83), eI (v77), eI (v71), eI (0), eR v64, eR a0]) rfl (e84 _ _) rfl ?_
        refine w_t (np := 95) (l2 := [some (eR a0), some (eI (a1)), some (eI (a2)), some (eI (a3)), some (eI (i51))]) (s2 := [eR a0, eI (v83), eI (v77), eI (v71), eI (0), eR v64, eR a0]) rfl (s_an rfl (pos_g I54 gA0 (by decide))) rfl ?_
        refine j_gj (np := 98) rfl rfl I54 gA0 (by decide) (n := 69) rfl rfl (lo := -9223372036854775808) (hi := 9223372036854775807) rfl ?_
        intro v86 e87 b88
        obtain ⟨v89, e90, b91⟩ := h_l2i (v86)
        refine w_t (np := 99) (l2 := [some (eR a0), some (eI (a1)), some (eI (a2)), some (eI (a3)), some (eI (i51))]) (s2 := [eI (v89), eI (v83), eI (v77), eI (v71), eI (0), eR v64, eR a0]) rfl (e90 _ _) rfl ?_
        refine w_cw (np := 102) (as := [eR v64, eI (0), eI (v71), eI (v77), eI (v83), eI (v89)]) (l2 := [some (eR a0), some (eR v64), some (eI (0)), some (eI (v71)), some (eI (v77)), some (eI (v83)), some (eI (v89))]) (rest := []) rfl rfl rfl (Nat.ble_eq.mp rfl) rfl rfl rfl (I54.kd gA0 (by decide) (n := 69) rfl) rfl ?_
        refine w_t (np := 1) (l2 := [some (eR a0), some (eR v64), some (eI (0)), some (eI (v71)), some (eI (v77)), some (eI (v83)), some (eI (v89))]) (s2 := [eR v64]) rfl (s_an rfl (pos_g I54 b66 (by decide))) rfl ?_
        refine w_t (np := 2) (l2 := [some (eR a0), some (eR v64), some (eI (0)), some (eI (v71)), some (eI (v77)), some (eI (v83)), some (eI (v89))]) (s2 := [eI (0), eR v64]) rfl rfl rfl ?_
        refine w_t (np := 3) (l2 := [some (eR a0), some (eR v64), some (eI (0)), some (eI (v71)), some (eI (v77)), some (eI (v83)), some (eI (v89))]) (s2 := [eI (v71), eI (0), eR v64]) rfl rfl rfl ?_
        refine j_as (np := 4) rfl rfl I54 b66 (by decide) (n := 4) rfl rfl (lo := -2147483648) (hi := 2147483647) (fun _ => rfl) (by decide) (by decide) (by omega) ?_
        intro m92 I93 W94
        have F95 : Fr l_290 0 0 g μ m92 := F55.v W94 b66 rfl rfl
        have p96 : FS g m92 := FS.fr p61 (Fr.o W94 b66 rfl) rfl
        refine w_t (np := 5) (l2 := [some (eR a0), some (eR v64), some (eI (0)), some (eI (v71)), some (eI (v77)), some (eI (v83)), some (eI (v89))]) (s2 := [eR v64]) rfl (s_an rfl (pos_g I93 b66 (by decide))) rfl ?_
        refine w_t (np := 6) (l2 := [some (eR a0), some (eR v64), some (eI (0)), some (eI (v71)), some (eI (v77)), some (eI (v83)), some (eI (v89))]) (s2 := [eI (0), eR v64]) rfl rfl rfl ?_
        refine w_t (np := 7) (l2 := [some (eR a0), some (eR v64), some (eI (0)), some (eI (v71)), some (eI (v77)), some (eI (v83)), some (eI (v89))]) (s2 := [eI (1), eI (0), eR v64]) rfl rfl rfl ?_
        refine w_t (np := 8) (l2 := [some (eR a0), some (eR v64), some (eI (0)), some (eI (v71)), some (eI (v77)), some (eI (v83)), some (eI (v89))]) (s2 := [eI (1), eR v64]) rfl (b_iadd rfl) rfl ?_
        refine w_t (np := 10) (l2 := [some (eR a0), some (eR v64), some (eI (0)), some (eI (v71)), some (eI (v77)), some (eI (v83)), some (eI (v89))]) (s2 := [eI (v77), eI (1), eR v64]) rfl rfl rfl ?_
        refine j_as (np := 11) rfl rfl I93 b66 (by decide) (n := 4) rfl rfl (lo := -2147483648) (hi := 2147483647) (fun _ => rfl) (by decide) (by decide) (by omega) ?_
        intro m97 I98 W99
        have F100 : Fr l_290 0 0 g μ m97 := F95.v W99 b66 rfl rfl
        have p101 : FS g m97 := FS.fr p96 (Fr.o W99 b66 rfl) rfl
        refine w_t (np := 12) (l2 := [some (eR a0), some (eR v64), some (eI (0)), some (eI (v71)), some (eI (v77)), some (eI (v83)), some (eI (v89))]) (s2 := [eR v64]) rfl (s_an rfl (pos_g I98 b66 (by decide))) rfl ?_
        refine w_t (np := 13) (l2 := [some (eR a0), some (eR v64), some (eI (0)), some (eI (v71)), some (eI (v77)), some (eI (v83)), some (eI (v89))]) (s2 := [eI (0), eR v64]) rfl rfl rfl ?_
        refine w_t (np := 14) (l2 := [some (eR a0), some (eR v64), some (eI (0)), some (eI (v71)), some (eI (v77)), some (eI (v83)), some (eI (v89))]) (s2 := [eI (2), eI (0), eR v64]) rfl rfl rfl ?_
        refine w_t (np := 15) (l2 := [some (eR a0), some (eR v64), some (eI (0)), some (eI (v71)), some (eI (v77)), some (eI (v83)), some (eI (v89))]) (s2 := [eI (2), eR v64]) rfl (b_iadd rfl) rfl ?_
        refine w_t (np := 17) (l2 := [some (eR a0), some (eR v64), some (eI (0)), some (eI (v71)), some (eI (v77)), some (eI (v83)), some (eI (v89))]) (s2 := [eI (v83), eI (2), eR v64]) rfl rfl rfl ?_
        refine j_as (np := 18) rfl rfl I98 b66 (by decide) (n := 4) rfl rfl (lo := -2147483648) (hi := 2147483647) (fun _ => rfl) (by decide) (by decide) (by omega) ?_
        intro m102 I103 W104
        have F105 : Fr l_290 0 0 g μ m102 := F100.v W104 b66 rfl rfl
        have p106 : FS g m102 := FS.fr p101 (Fr.o W104 b66 rfl) rfl
        refine w_t (np := 19) (l2 := [some (eR a0), some (eR v64), some (eI (0)), some (eI (v71)), some (eI (v77)), some (eI (v83)), some (eI (v89))]) (s2 := [eR v64]) rfl (s_an rfl (pos_g I103 b66 (by decide))) rfl ?_
        refine w_t (np := 20) (l2 := [some (eR a0), some (eR v64), some (eI (0)), some (eI (v71)), some (eI (v77)), some (eI (v83)), some (eI (v89))]) (s2 := [eI (0), eR v64]) rfl rfl rfl ?_
        refine w_t (np := 21) (l2 := [some (eR a0), some (eR v64), some (eI (0)), some (eI (v71)), some (eI (v77)), some (eI (v83)), some (eI (v89))]) (s2 := [eI (3), eI (0), eR v64]) rfl rfl rfl ?_
        refine w_t (np := 22) (l2 := [some (eR a0), some (eR v64), some (eI (0)), some (eI (v71)), some (eI (v77)), some (eI (v83)), some (eI (v89))]) (s2 := [eI (3), eR v64]) rfl (b_iadd rfl) rfl ?_
        refine w_t (np := 24) (l2 := [some (eR a0), some (eR v64), some (eI (0)), some (eI (v71)), some (eI (v77)), some (eI (v83)), some (eI (v89))]) (s2 := [eI (v89), eI (3), eR v64]) rfl rfl rfl ?_
        refine j_as (np := 25) rfl rfl I103 b66 (by decide) (n := 4) rfl rfl (lo := -2147483648) (hi := 2147483647) (fun _ => rfl) (by decide) (by decide) (by omega) ?_
        intro m107 I108 W109
        have F110 : Fr l_290 0 0 g μ m107 := F105.v W109 b66 rfl rfl
        have p111 : FS g m107 := FS.fr p106 (Fr.o W109 b66 rfl) rfl
        refine v_rv rfl rfl ?_
        show ex_q (dt_fg L ρ) rc (d + 2, (290, 102, [some (eR a0), some (eI (a1)), some (eI (a2)), some (eI (a3)), some (eI (i51))], []), f :: F, m107)
        refine w_t (np := 103) (l2 := [some (eR a0), some (eI (a1)), some (eI (a2)), some (eI (a3)), some (eI (i51))]) (s2 := [eR a0]) rfl (s_an rfl (pos_g I108 gA0 (by decide))) rfl ?_
        refine w_t (np := 104) (l2 := [some (eR a0), some (eI (a1)), some (eI (a2)), some (eI (a3)), some (eI (i51))]) (s2 := [eR a0, eR a0]) rfl (s_an rfl (pos_g I108 gA0 (by decide))) rfl ?_
        refine w_gf (np := 107) (v := eR v64) rfl rfl (I108.kd gA0 (by decide) (n := 69) rfl) (by rw [(W109.addr (W104.addr (W99.addr (W94.addr e65 b66 gA0 (by decide)) b66 gA0 (by decide)) b66 gA0 (by decide)) b66 gA0 (by decide))]; rfl) ?_
        refine w_t (np := 108) (l2 := [some (eR a0), some (eI (a1)), some (eI (a2)), some (eI (a3)), some (eI (i51))]) (s2 := [eI (0), eR v64, eR a0]) rfl rfl rfl ?_
        refine w_cw (np := 111) (as := [eR v64, eI (0)]) (l2 := [some (eR a0), some (eR v64), some (eI (0)), none, none, none]) (rest := []) rfl rfl rfl (Nat.ble_eq.mp rfl) rfl rfl rfl (I108.kd gA0 (by decide) (n := 69) rfl) rfl ?_
        refine s_235 I108 gA0 b66 p111 ?_
        intro m112 v115 I113 F114 b116
        have F117 : Fr l_290 0 0 g μ m112 := F110.t F114 rfl
        have p118 : FS g m112 := FS.fr p111 F114 rfl
        show ex_q (dt_fg L ρ) rc (d + 2, (290, 111, [some (eR a0), some (eI (a1)), some (eI (a2)), some (eI (a3)), some (eI (i51))], [eI (v115)]), f :: F, m112)
        exact b_ri rfl rfl (K m112 (v115) I113 F117 (by omega))
      · have b64 : 0 ≤ i51 ∧ i51 ≤ 8 := by omega
        have b65 : 1 ≤ a2 ∧ a2 ≤ 9 := by omega
        refine w_t (np := 64) (l2 := [some (eR a0), some (eI (a1)), some (eI (a2)), some (eI (a3)), some (eI (i51))]) (s2 := [eR a0]) rfl (s_an rfl (pos_g I54 gA0 (by decide))) rfl ?_
        refine w_cw (np := 67) (as := []) (l2 := [some (eR a0)]) (rest := []) rfl rfl rfl (Nat.ble_eq.mp rfl) rfl rfl rfl (I54.kd gA0 (by decide) (n := 69) rfl) rfl ?_
        refine s_220 I54 gA0 ?_
        intro m64 I65 F66
        have F67 : Fr l_290 0 0 g μ m64 := F55.t F66 rfl
        have p68 : FS g m64 := FS.fr p61 F66 rfl
        show ex_q (dt_fg L ρ) rc (d + 2, (290, 67, [some (eR a0), some (eI (a1)), some (eI (a2)), some (eI (a3)), some (eI (i51))], []), f :: F, m64)
        obtain ⟨v69, e70⟩ : ∃ zz : Int, zz = (i51) + (1) := ⟨_, rfl⟩
        have b71 : 1 ≤ v69 ∧ v69 ≤ 9 := by omega
        refine w_t (np := 70) (l2 := [some (eR a0), some (eI (a1)), some (eI (a2)), some (eI (a3)), some (eI (v69))]) (s2 := []) rfl (b_iinc rfl (by rw [← e70]; exact ev_w_in (by omega) (by omega)) rfl) rfl ?_
        refine w_go (t1 := 57) rfl rfl ?_
        exact ih50 (9 - (v69)).toNat (by omega) m64 (v69) I65 F67 (by omega) (F66.k k56 gA0 (by decide) rfl) (F66.kr k57 b3 (by decide) rfl rfl) (F66.kr k58 b3 (by decide) rfl rfl) (F66.kr k59 b3 (by decide) rfl rfl) (F66.kr k60 b3 (by decide) rfl rfl)  p68  rfl
    exact hL57 _ m44 (0) I45 F47 (by decide) (F46.k (F40.k e2 gA0 (by decide) rfl) gA0 (by decide) rfl) (F46.kr (F40.kr e9 b3 (by decide) rfl rfl) b3 (by decide) rfl rfl) (F46.kr (F40.kr e18 b3 (by decide) rfl rfl) b3 (by decide) rfl rfl) (F46.kr (F40.kr e27 b3 (by decide) rfl rfl) b3 (by decide) rfl rfl) (F46.kr (F40.kr e36 b3 (by decide) rfl rfl) b3 (by decide) rfl rfl)  p48  rfl
def l_292 : List Nat := [13313, 13314, 13315, 13342, 13316, 13317, 13318, 19968]
theorem s_292 {L : Nat} {ρ : Nat → Int} {rc : eQ} {d : Nat} {f : eFr} {F : List eFr} {μ : eM} {g : Nat → Nat} {a0 : Nat} {a1 : Int} {a2 : Int} (hI : SI g μ) (gA0 : g a0 = 52) (bA1 : -2147483648 ≤ a1 ∧ a1 ≤ 2147483647) (bA2 : -2147483648 ≤ a2 ∧ a2 ≤ 2147483647) (h_FS : FS g μ) (K : ∀ (μ2 : eM) (v : Int), SI g μ2 → Fr l_292 0 0 g μ μ2 → (-2147483648 ≤ v ∧ v ≤ 2147483647) → ex_q (dt_fg L ρ) rc (d + 4, (f.1, f.2.1, f.2.2.1, eI v :: f.2.2.2), F, μ2)) : ex_q (dt_fg L ρ) rc (d + 3, (292, 0, [some (eR a0), some (eI (a1)), some (eI (a2)), none], []), f :: F, μ) := by
  have F0 : Fr l_292 0 0 g μ μ := Fr.r
  refine w_t (np := 1) (l2 := [some (eR a0), some (eI (a1)), some (eI (a2)), none]) (s2 := [eR a0]) rfl (s_an rfl (pos_g hI gA0 (by decide))) rfl ?_
  refine w_t (np := 2) (l2 := [some (eR a0), some (eI (a1)), some (eI (a2)), none]) (s2 := [eI (a1), eR a0]) rfl rfl rfl ?_
  refine w_t (np := 3) (l2 := [some (eR a0), some (eI (a1)), some (eI (a2)), none]) (s2 := [eI (0), eI (a1), eR a0]) rfl rfl rfl ?_
  refine w_t (np := 5) (l2 := [some (eR a0), some (eI (a1)), some (eI (a2)), none]) (s2 := [eI (9), eI (0), eI (a1), eR a0]) rfl rfl rfl ?_
  refine w_cu (np := 8) (as := [eI (a1), eI (0), eI (9)]) (l2 := [some (eI (a1)), some (eI (0)), some (eI (9))]) (rest := [eR a0]) rfl rfl rfl (Nat.ble_eq.mp rfl) rfl rfl rfl rfl ?_
  refine w_t (np := 1) (l2 := [some (eI (a1)), some (eI (0)), some (eI (9))]) (s2 := [eI (a1)]) rfl rfl rfl ?_
  refine w_t (np := 2) (l2 := [some (eI (a1)), some (eI (0)), some (eI (9))]) (s2 := [eI (0), eI (a1)]) rfl rfl rfl ?_
  refine b_clt (t1 := 14) (t2 := 5) rfl rfl rfl (ev_w_in (by omega) (by omega)) rfl (fun g1 => ?_) (fun g1 => ?_)
  · have b2 : -2147483648 ≤ a1 ∧ a1 ≤ -1 := by omega
    refine w_t (np := 15) (l2 := [some (eI (a1)), some (eI (0)), some (eI (9))]) (s2 := [eI (0)]) rfl rfl rfl ?_
    refine b_rz rfl rfl (Or.inl rfl) ?_
    show ex_q (dt_fg L ρ) rc (d + 3, (292, 8, [some (eR a0), some (eI (a1)), some (eI (a2)), none], [eI (0), eR a0]), f :: F, μ)
    refine b_ieq (t1 := 15) (t2 := 11) rfl rfl rfl rfl (fun g2 => ?_) (fun g2 => absurd g2 (by decide))
    refine w_t (np := 16) (l2 := [some (eR a0), some (eI (a1)), some (eI (a2)), none]) (s2 := [eI (1), eR a0]) rfl rfl rfl ?_
    refine w_cw (np := 19) (as := [eI (1)]) (l2 := [some (eR a0), some (eI (1))]) (rest := []) rfl rfl rfl (Nat.ble_eq.mp rfl) rfl rfl rfl (hI.kd gA0 (by decide) (n := 69) rfl) rfl ?_
    refine w_t (np := 1) (l2 := [some (eR a0), some (eI (1))]) (s2 := [eR a0]) rfl (s_an rfl (pos_g hI gA0 (by decide))) rfl ?_
    refine w_t (np := 2) (l2 := [some (eR a0), some (eI (1))]) (s2 := [eI (0), eR a0]) rfl rfl rfl ?_
    refine j_pf (np := 5) (w := 0) rfl rfl hI gA0 (by decide) (n := 69) rfl rfl (hO_i (lo := -2147483648) (hi := 2147483647) rfl (by decide)) ?_
    intro m3 I4 W5
    have F6 : Fr l_292 0 0 g μ m3 := F0.w W5 gA0 rfl
    have p7 : FS g m3 := FS.fr h_FS (Fr.f W5 gA0) rfl
    refine w_t (np := 6) (l2 := [some (eR a0), some (eI (1))]) (s2 := [eR a0]) rfl (s_an rfl (pos_g I4 gA0 (by decide))) rfl ?_
    refine w_t (np := 7) (l2 := [some (eR a0), some (eI (1))]) (s2 := [eI (1), eR a0]) rfl rfl rfl ?_
    refine j_pf (np := 10) (w := 1) rfl rfl I4 gA0 (by decide) (n := 69) rfl rfl (hO_i (lo := -2147483648) (hi := 2147483647) rfl (by decide)) ?_
    intro m8 I9 W10
    have F11 : Fr l_292 0 0 g μ m8 := F6.w W10 gA0 rfl
    have p12 : FS g m8 := FS.fr p7 (Fr.f W10 gA0) rfl
    refine w_t (np := 11) (l2 := [some (eR a0), some (eI (1))]) (s2 := [eI (1)]) rfl rfl rfl ?_
    refine b_ine (t1 := 18) (t2 := 14) rfl rfl rfl rfl (fun g13 => ?_) (fun g13 => absurd g13 (by decide))
    refine w_t (np := 19) (l2 := [some (eR a0), some (eI (1))]) (s2 := [eI (0)]) rfl rfl rfl ?_
    refine b_rz rfl rfl (Or.inl rfl) ?_
    show ex_q (dt_fg L ρ) rc (d + 3, (292, 19, [some (eR a0), some (eI (a1)), some (eI (a2)), none], [eI (0)]), f :: F, m8)
    refine b_ine (t1 := 24) (t2 := 22) rfl rfl rfl rfl (fun g14 => absurd g14 (by decide)) (fun g14 => ?_)
    refine w_t (np := 23) (l2 := [some (eR a0), some (eI (a1)), some (eI (a2)), none]) (s2 := [eI (-1)]) rfl rfl rfl ?_
    exact b_ri rfl rfl (K m8 (-1) I9 F11 (by decide))
  · have b2 : 0 ≤ a1 ∧ a1 ≤ 2147483647 := by omega
    refine w_t (np := 6) (l2 := [some (eI (a1)), some (eI (0)), some (eI (9))]) (s2 := [eI (a1)]) rfl rfl rfl ?_
    refine w_t (np := 7) (l2 := [some (eI (a1)), some (eI (0)), some (eI (9))]) (s2 := [eI (9), eI (a1)]) rfl rfl rfl ?_
    refine b_cgt (t1 := 14) (t2 := 10) rfl rfl rfl (ev_w_in (by omega) (by omega)) rfl (fun g2 => ?_) (fun g2 => ?_)
    · have b3 : 10 ≤ a1 ∧ a1 ≤ 2147483647 := by omega
      refine w_t (np := 15) (l2 := [some (eI (a1)), some (eI (0)), some (eI (9))]) (s2 := [eI (0)]) rfl rfl rfl ?_
      refine b_rz rfl rfl (Or.inl rfl) ?_
      show ex_q (dt_fg L ρ) rc (d + 3, (292, 8, [some (eR a0), some (eI (a1)), some (eI (a2)), none], [eI (0), eR a0]), f :: F, μ)
      refine b_ieq (t1 := 15) (t2 := 11) rfl rfl rfl rfl (fun g3 => ?_) (fun g3 => absurd g3 (by decide))
      refine w_t (np := 16) (l2 := [some (eR a0), some (eI (a1)), some (eI (a2)), none]) (s2 := [eI (1), eR a0]) rfl rfl rfl ?_
      refine w_cw (np := 19) (as := [eI (1)]) (l2 := [some (eR a0), some (eI (1))]) (rest := []) rfl rfl rfl (Nat.ble_eq.mp rfl) rfl rfl rfl (hI.kd gA0 (by decide) (n := 69) rfl) rfl ?_
      refine w_t (np := 1) (l2 := [some (eR a0), some (eI (1))]) (s2 := [eR a0]) rfl (s_an rfl (pos_g hI gA0 (by decide))) rfl ?_
      refine w_t (np := 2) (l2 := [some (eR a0), some (eI (1))]) (s2 := [eI (0), eR a0]) rfl rfl rfl ?_
      refine j_pf (np := 5) (w := 0) rfl rfl hI gA0 (by decide) (n := 69) rfl rfl (hO_i (lo := -2147483648) (hi := 2147483647) rfl (by decide)) ?_
      intro m4 I5 W6
      have F7 : Fr l_292 0 0 g μ m4 := F0.w W6 gA0 rfl
      have p8 : FS g m4 := FS.fr h_FS (Fr.f W6 gA0) rfl
      refine w_t (np := 6) (l2 := [some (eR a0), some (eI (1))]) (s2 := [eR a0]) rfl (s_an rfl (pos_g I5 gA0 (by decide))) rfl ?_
      refine w_t (np := 7) (l2 := [some (eR a0), some (eI (1))]) (s2 := [eI (1), eR a0]) rfl rfl rfl ?_
      refine j_pf (np := 10) (w := 1) rfl rfl I5 gA0 (by decide) (n := 69) rfl rfl (hO_i (lo := -2147483648) (hi := 2147483647) rfl (by decide)) ?_
      intro m9 I10 W11
      have F12 : Fr l_292 0 0 g μ m9 := F7.w W11 gA0 rfl
      have p13 : FS g m9 := FS.fr p8 (Fr.f W11 gA0) rfl
      refine w_t (np := 11) (l2 := [some (eR a0), some (eI (1))]) (s2 := [eI (1)]) rfl rfl rfl ?_
      refine b_ine (t1 := 18) (t2 := 14) rfl rfl rfl rfl (fun g14 => ?_) (fun g14 => absurd g14 (by decide))
      refine w_t (np := 19) (l2 := [some (eR a0), some (eI (1))]) (s2 := [eI (0)]) rfl rfl rfl ?_
      refine b_rz rfl rfl (Or.inl rfl) ?_
      show ex_q (dt_fg L ρ) rc (d + 3, (292, 19, [some (eR a0), some (eI (a1)), some (eI (a2)), none], [eI (0)]), f :: F, m9)
      refine b_ine (t1 := 24) (t2 := 22) rfl rfl rfl rfl (fun g15 => absurd g15 (by decide)) (fun g15 => ?_)
      refine w_t (np := 23) (l2 := [some (eR a0), some (eI (a1)), some (eI (a2)), none]) (s2 := [eI (-1)]) rfl rfl rfl ?_
      exact b_ri rfl rfl (K m9 (-1) I10 F12 (by decide))
    · have b3 : 0 ≤ a1 ∧ a1 ≤ 9 := by omega
      refine w_t (np := 11) (l2 := [some (eI (a1)), some (eI (0)), some (eI (9))]) (s2 := [eI (1)]) rfl rfl rfl ?_
      refine w_go (t1 := 15) rfl rfl ?_
      refine b_rz rfl rfl (Or.inr rfl) ?_
      show ex_q (dt_fg L ρ) rc (d + 3, (292, 8, [some (eR a0), some (eI (a1)), some (eI (a2)), none], [eI (1), eR a0]), f :: F, μ)
      refine b_ieq (t1 := 15) (t2 := 11) rfl rfl rfl rfl (fun g3 => absurd g3 (by decide)) (fun g3 => ?_)
      refine w_t (np := 12) (l2 := [some (eR a0), some (eI (a1)), some (eI (a2)), none]) (s2 := [eI (0), eR a0]) rfl rfl rfl ?_
      refine w_go (t1 := 16) rfl rfl ?_
      refine w_cw (np := 19) (as := [eI (0)]) (l2 := [some (eR a0), some (eI (0))]) (rest := []) rfl rfl rfl (Nat.ble_eq.mp rfl) rfl rfl rfl (hI.kd gA0 (by decide) (n := 69) rfl) rfl ?_
      refine w_t (np := 1) (l2 := [some (eR a0), some (eI (0))]) (s2 := [eR a0]) rfl (s_an rfl (pos_g hI gA0 (by decide))) rfl ?_
      refine w_t (np := 2) (l2 := [some (eR a0), some (eI (0))]) (s2 := [eI (0), eR a0]) rfl rfl rfl ?_
      refine j_pf (np := 5) (w := 0) rfl rfl hI gA0 (by decide) (n := 69) rfl rfl (hO_i (lo := -2147483648) (hi := 2147483647) rfl (by decide)) ?_
      intro m4 I5 W6
      have F7 : Fr l_292 0 0 g μ m4 := F0.w W6 gA0 rfl
      have p8 : FS g m4 := FS.fr h_FS (Fr.f W6 gA0) rfl
      refine w_t (np := 6) (l2 := [some (eR a0), some (eI (0))]) (s2 := [eR a0]) rfl (s_an rfl (pos_g I5 gA0 (by decide))) rfl ?_
      refine w_t (np := 7) (l2 := [some (eR a0), some (eI (0))]) (s2 := [eI (0), eR a0]) rfl rfl rfl ?_
      refine j_pf (np := 10) (w := 0) rfl rfl I5 gA0 (by decide) (n := 69) rfl rfl (hO_i (lo := -2147483648) (hi := 2147483647) rfl (by decide)) ?_
      intro m9 I10 W11
      have F12 : Fr l_292 0 0 g μ m9 := F7.w W11 gA0 rfl
      have p13 : FS g m9 := FS.fr p8 (Fr.f W11 gA0) rfl
      refine w_t (np := 11) (l2 := [some (eR a0), some (eI (0))]) (s2 := [eI (0)]) rfl rfl rfl ?_
      refine b_ine (t1 := 18) (t2 := 14) rfl rfl rfl rfl (fun g14 => absurd g14 (by decide)) (fun g14 => ?_)
      refine w_t (np := 15) (l2 := [some (eR a0), some (eI (0))]) (s2 := [eI (1)]) rfl rfl rfl ?_
      refine w_go (t1 := 19) rfl rfl ?_
      refine b_rz rfl rfl (Or.inr rfl) ?_
      show ex_q (dt_fg L ρ) rc (d + 3, (292, 19, [some (eR a0), some (eI (a1)), some (eI (a2)), none], [eI (1)]), f :: F, m9)
      refine b_ine (t1 := 24) (t2 := 22) rfl rfl rfl rfl (fun g15 => ?_) (fun g15 => absurd g15 (by decide))
      refine w_t (np := 25) (l2 := [some (eR a0), some (eI (a1)), some (eI (a2)), none]) (s2 := [eI (0)]) rfl rfl rfl ?_
      refine w_t (np := 26) (l2 := [some (eR a0), some (eI (a1)), some (eI (a2)), some (eI (0))]) (s2 := []) rfl rfl rfl ?_
      have hL26 : ∀ (n16 : Nat) (m20 : eM) (i18 : Int), SI g m20 → Fr l_292 0 0 g μ m20 → (0 ≤ i18 ∧ i18 ≤ 890) → m20.1 a0 1 = 0 → m20.1 a0 0 = 0 → FS g m20 → n16 = (890 - i18).toNat → ex_q (dt_fg L ρ) rc (d + 3, (292, 26, [some (eR a0), some (eI (a1)), some (eI (a2)), some (eI (i18))], []), f :: F, m20) := by
        intro n16
        induction n16 using Nat.strongRecOn with
        | _ n16 ih17 =>
        intro m20 i18 I21 F22 b19 k23 k24 p25 hn26
        refine w_t (np := 27) (l2 := [some (eR a0), some (eI (a1)), some (eI (a2)), some (eI (i18))]) (s2 := [eI (i18)]) rfl rfl rfl ?_
        refine w_t (np := 28) (l2 := [some (eR a0), some (eI (a1)), some (eI (a2)), some (eI (i18))]) (s2 := [eR a0, eI (i18)]) rfl (s_an rfl (pos_g I21 gA0 (by decide))) rfl ?_
        refine j_gi (np := 31) rfl rfl rfl I21 gA0 (by decide) (n := 69) rfl rfl (lo := 0) (hi := 890) rfl ?_
        intro v27 e28 b29
        refine b_cge (t1 := 91) (t2 := 34) rfl rfl rfl (ev_w_in (by omega) (by omega)) (ev_w_in (by omega) (by omega)) (fun g30 => ?_) (fun g30 => ?_)
        · refine w_t (np := 92) (l2 := [some (eR a0), some (eI (a1)), some (eI (a2)), some (eI (i18))]) (s2 := [eI (1)]) rfl rfl rfl ?_
          exact b_ri rfl rfl (K m20 (1) I21 F22 (by decide))
        · have b31 : 0 ≤ i18 ∧ i18 ≤ 889 := by omega
          have b32 : 1 ≤ v27 ∧ v27 ≤ 890 := by omega
          refine w_t (np := 35) (l2 := [some (eR a0), some (eI (a1)), some (eI (a2)), some (eI (i18))]) (s2 := [eR a0]) rfl (s_an rfl (pos_g I21 gA0 (by decide))) rfl ?_
          refine w_t (np := 36) (l2 := [some (eR a0), some (eI (a1)), some (eI (a2)), some (eI (i18))]) (s2 := [eR a0, eR a0]) rfl (s_an rfl (pos_g I21 gA0 (by decide))) rfl ?_
          refine j_gr (np := 39) rfl rfl I21 gA0 (by decide) (n := 69) rfl rfl rfl ?_
          intro v31 e32 b33 z34
          have b33 : g v31 = 56 := Nat.eq_of_beq_eq_true b33
          refine w_t (np := 40) (l2 := [some (eR a0), some (eI (a1)), some (eI (a2)), some (eI (i18))]) (s2 := [eI (i18), eR v31, eR a0]) rfl rfl rfl ?_
          refine j_al (np := 41) rfl rfl I21 b33 (by decide) (n := 890) rfl rfl (lo := 0) (hi := 1) (fun _ => rfl) (by omega) (by omega) ?_
          intro v35 e36 b37
          refine w_t (np := 42) (l2 := [some (eR a0), some (eI (a1)), some (eI (a2)), some (eI (i18))]) (s2 := [eR a0, eI (v35), eR a0]) rfl (s_an rfl (pos_g I21 gA0 (by decide))) rfl ?_
          refine w_t (np := 43) (l2 := [some (eR a0), some (eI (a1)), some (eI (a2)), some (eI (i18))]) (s2 := [eR a0, eR a0, eI (v35), eR a0]) rfl (s_an rfl (pos_g I21 gA0 (by decide))) rfl ?_
          refine w_t (np := 44) (l2 := [some (eR a0), some (eI (a1)), some (eI (a2)), some (eI (i18))]) (s2 := [eI (i18), eR a0, eR a0, eI (v35), eR a0]) rfl rfl rfl ?_
          refine w_t (np := 45) (l2 := [some (eR a0), some (eI (a1)), some (eI (a2)), some (eI (i18))]) (s2 := [eI (0), eI (i18), eR a0, eR a0, eI (v35), eR a0]) rfl rfl rfl ?_
          refine w_cw (np := 48) (as := [eI (i18), eI (0)]) (l2 := [some (eR a0), some (eI (i18)), some (eI (0))]) (rest := [eR a0, eI (v35), eR a0]) rfl rfl rfl (Nat.ble_eq.mp rfl) rfl rfl rfl (I21.kd gA0 (by decide) (n := 69) rfl) rfl ?_
          refine w_t (np := 1) (l2 := [some (eR a0), some (eI (i18)), some (eI (0))]) (s2 := [eR a0]) rfl (s_an rfl (pos_g I21 gA0 (by decide))) rfl ?_
          refine j_gr (np := 4) rfl rfl I21 gA0 (by decide) (n := 69) rfl rfl rfl ?_
          intro v38 e39 b40 z41
          have b40 : g v38 = 64 := Nat.eq_of_beq_eq_true b40
          refine w_t (np := 5) (l2 := [some (eR a0), some (eI (i18)), some (eI (0))]) (s2 := [eI (3), eR v38]) rfl rfl rfl ?_
          refine w_t (np := 6) (l2 := [some (eR a0), some (eI (i18)), some (eI (0))]) (s2 := [eI (i18), eI (3), eR v38]) rfl rfl rfl ?_
          obtain ⟨v42, e43⟩ : ∃ zz : Int, zz = (3) * (i18) := ⟨_, rfl⟩
          have b44 : 0 ≤ v42 ∧ v42 ≤ 2667 := by omega
          refine w_t (np := 7) (l2 := [some (eR a0), some (eI (i18)), some (eI (0))]) (s2 := [eI (v42), eR v38]) rfl (b_imul (by rw [← e43]; exact ev_w_in (by omega) (by omega))) rfl ?_
          refine w_t (np := 8) (l2 := [some (eR a0), some (eI (i18)), some (eI (0))]) (s2 := [eI (0), eI (v42), eR v38]) rfl rfl rfl ?_
          refine w_t (np := 9) (l2 := [some (eR a0), some (eI (i18)), some (eI (0))]) (s2 := [eI (v42), eR v38]) rfl (b_iadd (by rw [Int.add_zero]; exact ev_w_in (by omega) (by omega))) rfl ?_
          refine j_al (np := 10) rfl rfl I21 b40 (by decide) (n := 2670) rfl rfl (lo := 0) (hi := 2669) (fun _ => rfl) (by omega) (by omega) ?_
          intro v45 e46 b47
          refine b_ri rfl rfl ?_
          show ex_q (dt_fg L ρ) rc (d + 3, (292, 48, [some (eR a0), some (eI (a1)), some (eI (a2)), some (eI (i18))], [eI (v45), eR a0, eI (v35), eR a0]), f :: F, m20)
          refine w_t (np := 49) (l2 := [some (eR a0), some (eI (a1)), some (eI (a2)), some (eI (i18))]) (s2 := [eI (a1), eI (v45), eR a0, eI (v35), eR a0]) rfl rfl rfl ?_
          refine w_t (np := 50) (l2 := [some (eR a0), some (eI (a1)), some (eI (a2)), some (eI (i18))]) (s2 := [eI (a2), eI (a1), eI (v45), eR a0, eI (v35), eR a0]) rfl rfl rfl ?_
          refine w_cw (np := 53) (as := [eI (v45), eI (a1), eI (a2)]) (l2 := [some (eR a0), some (eI (v45)), some (eI (a1)), some (eI (a2)), none]) (rest := [eI (v35), eR a0]) rfl rfl rfl (Nat.ble_eq.mp rfl) rfl rfl rfl (I21.kd gA0 (by decide) (n := 69) rfl) rfl ?_
          refine s_290 (a1 := v45) (a2 := a1) (a3 := a2) I21 gA0 (by omega) (by omega) (by omega) p25 ?_
          intro m48 v51 I49 F50 b52
          have F53 : Fr l_292 0 0 g μ m48 := F22.t F50 rfl
          have p54 : FS g m48 := FS.fr p25 F50 rfl
          show ex_q (dt_fg L ρ) rc (d + 3, (292, 53, [some (eR a0), some (eI (a1)), some (eI (a2)), some (eI (i18))], [eI (v51), eI (v35), eR a0]), f :: F, m48)
          refine w_t (np := 54) (l2 := [some (eR a0), some (eI (a1)), some (eI (a2)), some (eI (i18))]) (s2 := [eR a0, eI (v51), eI (v35), eR a0]) rfl (s_an rfl (pos_g I49 gA0 (by decide))) rfl ?_
          refine w_t (np := 55) (l2 := [some (eR a0), some (eI (a1)), some (eI (a2)), some (eI (i18))]) (s2 := [eR a0, eR a0, eI (v51), eI (v35), eR a0]) rfl (s_an rfl (pos_g I49 gA0 (by decide))) rfl ?_
          refine w_t (np := 56) (l2 := [some (eR a0), some (eI (a1)), some (eI (a2)), some (eI (i18))]) (s2 := [eI (i18), eR a0, eR a0, eI (v51), eI (v35), eR a0]) rfl rfl rfl ?_
          refine w_t (np := 57) (l2 := [some (eR a0), some (eI (a1)), some (eI (a2)), some (eI (i18))]) (s2 := [eI (1), eI (i18), eR a0, eR a0, eI (v51), eI (v35), eR a0]) rfl rfl rfl ?_
          refine w_cw (np := 60) (as := [eI (i18), eI (1)]) (l2 := [some (eR a0), some (eI (i18)), some (eI (1))]) (rest := [eR a0, eI (v51), eI (v35), eR a0]) rfl rfl rfl (Nat.ble_eq.mp rfl) rfl rfl rfl (I49.kd gA0 (by decide) (n := 69) rfl) rfl ?_
          refine w_t (np := 1) (l2 := [some (eR a0), some (eI (i18)), some (eI (1))]) (s2 := [eR a0]) rfl (s_an rfl (pos_g I49 gA0 (by decide))) rfl ?_
          refine w_gf (np := 4) (v := eR v38) rfl rfl (I49.kd gA0 (by decide) (n := 69) rfl) (by rw [(F50.k e39 gA0 (by decide) rfl)]; rfl) ?_
          refine w_t (np := 5) (l2 := [some (eR a0), some (eI (i18)), some (eI (1))]) (s2 := [eI (3), eR v38]) rfl rfl rfl ?_
          refine w_t (np := 6) (l2 := [some (eR a0), some (eI (i18)), some (eI (1))]) (s2 := [eI (i18), eI (3), eR v38]) rfl rfl rfl ?_
          obtain ⟨v55, e56⟩ : ∃ zz : Int, zz = (3) * (i18) := ⟨_, rfl⟩
          have b57 : 0 ≤ v55 ∧ v55 ≤ 2667 := by omega
          refine w_t (np := 7) (l2 := [some (eR a0), some (eI (i18)), some (eI (1))]) (s2 := [eI (v55), eR v38]) rfl (b_imul (by rw [← e56]; exact ev_w_in (by omega) (by omega))) rfl ?_
          refine w_t (np := 8) (l2 := [some (eR a0), some (eI (i18)), some (eI (1))]) (s2 := [eI (1), eI (v55), eR v38]) rfl rfl rfl ?_
          obtain ⟨v58, e59⟩ : ∃ zz : Int, zz = (v55) + (1) := ⟨_, rfl⟩
          have b60 : 1 ≤ v58 ∧ v58 ≤ 2668 := by omega
          refine w_t (np := 9) (l2 := [some (eR a0), some (eI (i18)), some (eI (1))]) (s2 := [eI (v58), eR v38]) rfl (b_iadd (by rw [← e59]; exact ev_w_in (by omega) (by omega))) rfl ?_
          refine j_al (np := 10) rfl rfl I49 b40 (by decide) (n := 2670) rfl rfl (lo := 0) (hi := 2669) (fun _ => rfl) (by omega) (by omega) ?_
          intro v61 e62 b63
          refine b_ri rfl rfl ?_
          show ex_q (dt_fg L ρ) rc (d + 3, (292, 60, [some (eR a0), some (eI (a1)), some (eI (a2)), some (eI (i18))], [eI (v61), eR a0, eI (v51), eI (v35), eR a0]), f :: F, m48)
          refine w_t (np := 61) (l2 := [some (eR a0), some (eI (a1)), some (eI (a2)), some (eI (i18))]) (s2 := [eI (a1), eI (v61), eR a0, eI (v51), eI (v35), eR a0]) rfl rfl rfl ?_
          refine w_t (np := 62) (l2 := [some (eR a0), some (eI (a1)), some (eI (a2)), some (eI (i18))]) (s2 := [eI (a2), eI (a1), eI (v61), eR a0, eI (v51), eI (v35), eR a0]) rfl rfl rfl ?_
          refine w_cw (np := 65) (as := [eI (v61), eI (a1), eI (a2)]) (l2 := [some (eR a0), some (eI (v61)), some (eI (a1)), some (eI (a2)), none]) (rest := [eI (v51), eI (v35), eR a0]) rfl rfl rfl (Nat.ble_eq.mp rfl) rfl rfl rfl (I49.kd gA0 (by decide) (n := 69) rfl) rfl ?_
          refine s_290 (a1 := v61) (a2 := a1) (a3 := a2) I49 gA0 (by omega) (by omega) (by omega) p54 ?_
          intro m64 v67 I65 F66 b68
          have F69 : Fr l_292 0 0 g μ m64 := F53.t F66 rfl
          have p70 : FS g m64 := FS.fr p54 F66 rfl
          show ex_q (dt_fg L ρ) rc (d + 3, (292, 65, [some (eR a0), some (eI (a1)), some (eI (a2)), some (eI (i18))], [eI (v67), eI (v51), eI (v35), eR a0]), f :: F, m64)
          refine w_t (np := 66) (l2 := [some (eR a0), some (eI (a1)), some (eI (a2)), some (eI (i18))]) (s2 := [eR a0, eI (v67), eI (v51), eI (v35), eR a0]) rfl (s_an rfl (pos_g I65 gA0 (by decide))) rfl ?_
          refine w_t (np := 67) (l2 := [some (eR a0), some (eI (a1)), some (eI (a2)), some (eI (i18))]) (s2 := [eR a0, eR a0, eI (v67), eI (v51), eI (v35), eR a0]) rfl (s_an rfl (pos_g I65 gA0 (by decide))) rfl ?_
          refine w_t (np := 68) (l2 := [some (eR a0), some (eI (a1)), some (eI (a2)), some (eI (i18))]) (s2 := [eI (i18), eR a0, eR a0, eI (v67), eI (v51), eI (v35), eR a0]) rfl rfl rfl ?_
          refine w_t (np := 69) (l2 := [some (eR a0), some (eI (a1)), some (eI (a2)), some (eI (i18))]) (s2 := [eI (2), eI (i18), eR a0, eR a0, eI (v67), eI (v51), eI (v35), eR a0]) rfl rfl rfl ?_
          refine w_cw (np := 72) (as := [eI (i18), eI (2)]) (l2 := [some (eR a0), some (eI (i18)), some (eI (2))]) (rest := [eR a0, eI (v67), eI (v51), eI (v35), eR a0]) rfl rfl rfl (Nat.ble_eq.mp rfl) rfl rfl rfl (I65.kd gA0 (by decide) (n := 69) rfl) rfl ?_
          refine w_t (np := 1) (l2 := [some (eR a0), some (eI (i18)), some (eI (2))]) (s2 := [eR a0]) rfl (s_an rfl (pos_g I65 gA0 (by decide))) rfl ?_
          refine w_gf (np := 4) (v := eR v38) rfl rfl (I65.kd gA0 (by decide) (n := 69) rfl) (by rw [(F66.k (F50.k e39 gA0 (by decide) rfl) gA0 (by decide) rfl)]; rfl) ?_
          refine w_t (np := 5) (l2 := [some (eR a0), some (eI (i18)), some (eI (2))]) (s2 := [eI (3), eR v38]) rfl rfl rfl ?_
          refine w_t (np := 6) (l2 := [some (eR a0), some (eI (i18)), some (eI (2))]) (s2 := [eI (i18), eI (3), eR v38]) rfl rfl rfl ?_
          obtain ⟨v71, e72⟩ : ∃ zz : Int, zz = (3) * (i18) := ⟨_, rfl⟩
          have b73 : 0 ≤ v71 ∧ v71 ≤ 2667 := by omega
          refine w_t (np := 7) (l2 := [some (eR a0), some (eI (i18)), some (eI (2))]) (s2 := [eI (v71), eR v38]) rfl (b_imul (by rw [← e72]; exact ev_w_in (by omega) (by omega))) rfl ?_
          refine w_t (np := 8) (l2 := [some (eR a0), some (eI (i18)), some (eI (2))]) (s2 := [eI (2), eI (v71), eR v38]) rfl rfl rfl ?_
          obtain ⟨v74, e75⟩ : ∃ zz : Int, zz = (v71) + (2) := ⟨_, rfl⟩
          have b76 : 2 ≤ v74 ∧ v74 ≤ 2669 := by omega
          refine w_t (np := 9) (l2 := [some (eR a0), some (eI (i18)), some (eI (2))]) (s2 := [eI (v74), eR v38]) rfl (b_iadd (by rw [← e75]; exact ev_w_in (by omega) (by omega))) rfl ?_
          refine j_al (np := 10) rfl rfl I65 b40 (by decide) (n := 2670) rfl rfl (lo := 0) (hi := 2669) (fun _ => rfl) (by omega) (by omega) ?_
          intro v77 e78 b79
          refine b_ri rfl rfl ?_
          show ex_q (dt_fg L ρ) rc (d + 3, (292, 72, [some (eR a0), some (eI (a1)), some (eI (a2)), some (eI (i18))], [eI (v77), eR a0, eI (v67), eI (v51), eI (v35), eR a0]), f :: F, m64)
          refine w_t (np := 73) (l2 := [some (eR a0), some (eI (a1)), some (eI (a2)), some (eI (i18))]) (s2 := [eI (a1), eI (v77), eR a0, eI (v67), eI (v51), eI (v35), eR a0]) rfl rfl rfl ?_
          refine w_t (np := 74) (l2 := [some (eR a0), some (eI (a1)), some (eI (a2)), some (eI (i18))]) (s2 := [eI (a2), eI (a1), eI (v77), eR a0, eI (v67), eI (v51), eI (v35), eR a0]) rfl rfl rfl ?_
          refine w_cw (np := 77) (as := [eI (v77), eI (a1), eI (a2)]) (l2 := [some (eR a0), some (eI (v77)), some (eI (a1)), some (eI (a2)), none]) (rest := [eI (v67), eI (v51), eI (v35), eR a0]) rfl rfl rfl (Nat.ble_eq.mp rfl) rfl rfl rfl (I65.kd gA0 (by decide) (n := 69) rfl) rfl ?_
          refine s_290 (a1 := v77) (a2 := a1) (a3 := a2) I65 gA0 (by omega) (by omega) (by omega) p70 ?_
          intro m80 v83 I81 F82 b84
          have F85 : Fr l_292 0 0 g μ m80 := F69.t F82 rfl
          have p86 : FS g m80 := FS.fr p70 F82 rfl
          show ex_q (dt_fg L ρ) rc (d + 3, (292, 77, [some (eR a0), some (eI (a1)), some (eI (a2)), some (eI (i18))], [eI (v83), eI (v67), eI (v51), eI (v35), eR a0]), f :: F, m80)
          refine w_cw (np := 80) (as := [eI (v35), eI (v51), eI (v67), eI (v83)]) (l2 := [some (eR a0), some (eI (v35)), some (eI (v51)), some (eI (v67)), some (eI (v83)), none]) (rest := []) rfl rfl rfl (Nat.ble_eq.mp rfl) rfl rfl rfl (I81.kd gA0 (by decide) (n := 69) rfl) rfl ?_
          refine s_291 (a1 := v35) (a2 := v51) (a3 := v67) (a4 := v83) I81 gA0 (by omega) (by omega) (by omega) (by omega) ?_
          intro v87 b88
          show ex_q (dt_fg L ρ) rc (d + 3, (292, 80, [some (eR a0), some (eI (a1)), some (eI (a2)), some (eI (i18))], [eI (v87)]), f :: F, m80)
          refine b_ine (t1 := 85) (t2 := 83) rfl rfl rfl (ev_w_in (by omega) (by omega)) (fun g89 => ?_) (fun g89 => ?_)
          · have b90 : 1 ≤ v87 ∧ v87 ≤ 1 := by omega
            obtain ⟨v90, e91⟩ : ∃ zz : Int, zz = (i18) + (1) := ⟨_, rfl⟩
            have b92 : 1 ≤ v90 ∧ v90 ≤ 890 := by omega
            refine w_t (np := 88) (l2 := [some (eR a0), some (eI (a1)), some (eI (a2)), some (eI (v90))]) (s2 := []) rfl (b_iinc rfl (by rw [← e91]; exact ev_w_in (by omega) (by omega)) rfl) rfl ?_
            refine w_go (t1 := 26) rfl rfl ?_
            exact ih17 (890 - (v90)).toNat (by omega) m80 (v90) I81 F85 (by omega) (F82.k (F66.k (F50.k k23 gA0 (by decide) rfl) gA0 (by decide) rfl) gA0 (by decide) rfl) (F82.k (F66.k (F50.k k24 gA0 (by decide) rfl) gA0 (by decide) rfl) gA0 (by decide) rfl)  p86  rfl
          · have b90 : 0 ≤ v87 ∧ v87 ≤ 0 := by omega
            refine w_t (np := 84) (l2 := [some (eR a0), some (eI (a1)), some (eI (a2)), some (eI (i18))]) (s2 := [eI (0)]) rfl rfl rfl ?_
            exact b_ri rfl rfl (K m80 (0) I81 F85 (by decide))
      exact hL26 _ m9 (0) I10 F12 (by decide) (W11.slot W6.at (by decide)) W11.at  p13  rfl
