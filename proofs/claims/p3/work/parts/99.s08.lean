/-! methods, walked -/
def l_46_2 : List Nat := [4096, 4352, 3843]
theorem s_46_2 {L : Nat} {ρ : Nat → Int} {rc : eQ} {d : Nat} {f : eFr} {F : List eFr} {μ : eM} {g : Nat → Nat} {a0 : Nat} {a1 : Int} (hI : SI g μ) (gA0 : g a0 = 15) (bA1 : -9223372036854775808 ≤ a1 ∧ a1 ≤ 9223372036854775807) (K : ∀ (μ2 : eM) (v : Int), SI g μ2 → Fr l_46_2 0 0 g μ μ2 → (0 ≤ v ∧ v ≤ 511) → ex_q (dt_fg L ρ) rc (d + 2, (f.1, f.2.1, f.2.2.1, eI v :: f.2.2.2), F, μ2)) : ex_q (dt_fg L ρ) rc (d + 1, (46, 0, [some (eR a0), some (eJ (a1)), none, none], []), f :: F, μ) := by
  have F0 : Fr l_46_2 0 0 g μ μ := Fr.r
  refine w_t (np := 1) (l2 := [some (eR a0), some (eJ (a1)), none, none]) (s2 := [eR a0]) rfl (s_an rfl (pos_g hI gA0 (by decide))) rfl ?_
  refine w_t (np := 2) (l2 := [some (eR a0), some (eJ (a1)), none, none]) (s2 := [eJ (a1), eR a0]) rfl rfl rfl ?_
  refine w_cw (np := 5) (as := [eJ (a1)]) (l2 := [some (eR a0), some (eJ (a1)), none, none, none, none]) (rest := []) rfl rfl rfl (Nat.ble_eq.mp rfl) rfl rfl rfl (hI.kd gA0 (by decide) (n := 3) rfl) rfl ?_
  refine s_48_2 hI gA0 bA1 ?_
  intro v1 b2
  show ex_q (dt_fg L ρ) rc (d + 1, (46, 5, [some (eR a0), some (eJ (a1)), none, none], [eI (v1)]), f :: F, μ)
  refine w_t (np := 6) (l2 := [some (eR a0), some (eJ (a1)), none, some (eI (v1))]) (s2 := []) rfl rfl rfl ?_
  refine w_t (np := 7) (l2 := [some (eR a0), some (eJ (a1)), none, some (eI (v1))]) (s2 := [eR a0]) rfl (s_an rfl (pos_g hI gA0 (by decide))) rfl ?_
  refine j_gr (np := 10) rfl rfl hI gA0 (by decide) (n := 3) rfl rfl rfl ?_
  intro v3 e4 b5 z6
  have b5 : g v3 = 17 := Nat.eq_of_beq_eq_true b5
  refine w_t (np := 11) (l2 := [some (eR a0), some (eJ (a1)), none, some (eI (v1))]) (s2 := [eI (v1), eR v3]) rfl rfl rfl ?_
  refine j_al (np := 12) rfl rfl hI b5 (by decide) (n := 1024) rfl rfl (lo := 0) (hi := 512) (fun _ => rfl) (by omega) (by omega) ?_
  intro v7 e8 b9
  refine b_ine (t1 := 57) (t2 := 15) rfl rfl rfl (ev_w_in (by omega) (by omega)) (fun g10 => ?_) (fun g10 => ?_)
  · have b11 : 1 ≤ v7 ∧ v7 ≤ 512 := by omega
    refine w_t (np := 58) (l2 := [some (eR a0), some (eJ (a1)), none, some (eI (v1))]) (s2 := [eR a0]) rfl (s_an rfl (pos_g hI gA0 (by decide))) rfl ?_
    refine w_gf (np := 61) (v := eR v3) rfl rfl (hI.kd gA0 (by decide) (n := 3) rfl) (by rw [e4]; rfl) ?_
    refine w_t (np := 62) (l2 := [some (eR a0), some (eJ (a1)), none, some (eI (v1))]) (s2 := [eI (v1), eR v3]) rfl rfl rfl ?_
    refine j_al (np := 63) rfl rfl hI b5 (by decide) (n := 1024) rfl rfl (lo := 0) (hi := 512) (fun _ => rfl) (by omega) (by omega) ?_
    intro v11 e12 b13
    have e12 := e12.symm.trans e8
    rw [e12]
    refine w_t (np := 64) (l2 := [some (eR a0), some (eJ (a1)), none, some (eI (v1))]) (s2 := [eI (1), eI (v7)]) rfl rfl rfl ?_
    obtain ⟨v14, e15⟩ : ∃ zz : Int, zz = (v7) - (1) := ⟨_, rfl⟩
    have b16 : 0 ≤ v14 ∧ v14 ≤ 511 := by omega
    refine w_t (np := 65) (l2 := [some (eR a0), some (eJ (a1)), none, some (eI (v1))]) (s2 := [eI (v14)]) rfl (b_isub (by rw [← e15]; exact ev_w_in (by omega) (by omega))) rfl ?_
    refine w_t (np := 66) (l2 := [some (eR a0), some (eJ (a1)), none, some (eI (v1))]) (s2 := [eI (0), eI (v14)]) rfl rfl rfl ?_
    refine w_cu (np := 69) (as := [eI (v14), eI (0)]) (l2 := [some (eI (v14)), some (eI (0))]) (rest := []) rfl rfl rfl (Nat.ble_eq.mp rfl) rfl rfl rfl rfl ?_
    refine w_t (np := 1) (l2 := [some (eI (v14)), some (eI (0))]) (s2 := [eI (v14)]) rfl rfl rfl ?_
    refine w_t (np := 2) (l2 := [some (eI (v14)), some (eI (0))]) (s2 := [eI (0), eI (v14)]) rfl rfl rfl ?_
    refine b_clt (t1 := 9) (t2 := 5) rfl rfl rfl (ev_w_in (by omega) (by omega)) rfl (fun g17 => False.elim (by omega)) (fun g17 => ?_)
    refine w_t (np := 6) (l2 := [some (eI (v14)), some (eI (0))]) (s2 := [eI (v14)]) rfl rfl rfl ?_
    refine w_go (t1 := 10) rfl rfl ?_
    refine b_ri rfl rfl ?_
    show ex_q (dt_fg L ρ) rc (d + 1, (46, 69, [some (eR a0), some (eJ (a1)), none, some (eI (v1))], [eI (v14)]), f :: F, μ)
    exact b_ri rfl rfl (K μ (v14) hI F0 (by omega))
  · have b11 : 0 ≤ v7 ∧ v7 ≤ 0 := by omega
    refine w_t (np := 16) (l2 := [some (eR a0), some (eJ (a1)), none, some (eI (v1))]) (s2 := [eR a0]) rfl (s_an rfl (pos_g hI gA0 (by decide))) rfl ?_
    refine j_gi (np := 19) rfl rfl rfl hI gA0 (by decide) (n := 3) rfl rfl (lo := 0) (hi := 512) rfl ?_
    intro v11 e12 b13
    refine w_t (np := 20) (l2 := [some (eR a0), some (eJ (a1)), none, some (eI (v1))]) (s2 := [eR a0, eI (v11)]) rfl (s_an rfl (pos_g hI gA0 (by decide))) rfl ?_
    refine j_gr (np := 23) rfl rfl hI gA0 (by decide) (n := 3) rfl rfl rfl ?_
    intro v14 e15 b16 z17
    have b16 : g v14 = 16 := Nat.eq_of_beq_eq_true b16
    refine j_len (np := 24) rfl rfl hI b16 (by decide) (c := 101) (n := 512) rfl rfl rfl ?_
    rw [show ((512 : Nat) : Int) = 512 from rfl]
    refine b_cge (t1 := 57) (t2 := 27) rfl rfl rfl (ev_w_in (by omega) (by omega)) rfl (fun g18 => ?_) (fun g18 => ?_)
    · have b19 : 512 ≤ v11 ∧ v11 ≤ 512 := by omega
      refine w_t (np := 58) (l2 := [some (eR a0), some (eJ (a1)), none, some (eI (v1))]) (s2 := [eR a0]) rfl (s_an rfl (pos_g hI gA0 (by decide))) rfl ?_
      refine w_gf (np := 61) (v := eR v3) rfl rfl (hI.kd gA0 (by decide) (n := 3) rfl) (by rw [e4]; rfl) ?_
      refine w_t (np := 62) (l2 := [some (eR a0), some (eJ (a1)), none, some (eI (v1))]) (s2 := [eI (v1), eR v3]) rfl rfl rfl ?_
      refine j_al (np := 63) rfl rfl hI b5 (by decide) (n := 1024) rfl rfl (lo := 0) (hi := 512) (fun _ => rfl) (by omega) (by omega) ?_
      intro v19 e20 b21
      have e20 := e20.symm.trans e8
      rw [e20]
      refine w_t (np := 64) (l2 := [some (eR a0), some (eJ (a1)), none, some (eI (v1))]) (s2 := [eI (1), eI (v7)]) rfl rfl rfl ?_
      obtain ⟨v22, e23⟩ : ∃ zz : Int, zz = (v7) - (1) := ⟨_, rfl⟩
      have b24 : -1 ≤ v22 ∧ v22 ≤ -1 := by omega
      refine w_t (np := 65) (l2 := [some (eR a0), some (eJ (a1)), none, some (eI (v1))]) (s2 := [eI (v22)]) rfl (b_isub (by rw [← e23]; exact ev_w_in (by omega) (by omega))) rfl ?_
      refine w_t (np := 66) (l2 := [some (eR a0), some (eJ (a1)), none, some (eI (v1))]) (s2 := [eI (0), eI (v22)]) rfl rfl rfl ?_
      refine w_cu (np := 69) (as := [eI (v22), eI (0)]) (l2 := [some (eI (v22)), some (eI (0))]) (rest := []) rfl rfl rfl (Nat.ble_eq.mp rfl) rfl rfl rfl rfl ?_
      refine w_t (np := 1) (l2 := [some (eI (v22)), some (eI (0))]) (s2 := [eI (v22)]) rfl rfl rfl ?_
      refine w_t (np := 2) (l2 := [some (eI (v22)), some (eI (0))]) (s2 := [eI (0), eI (v22)]) rfl rfl rfl ?_
      refine b_clt (t1 := 9) (t2 := 5) rfl rfl rfl (ev_w_in (by omega) (by omega)) rfl (fun g25 => ?_) (fun g25 => False.elim (by omega))
      refine w_t (np := 10) (l2 := [some (eI (v22)), some (eI (0))]) (s2 := [eI (0)]) rfl rfl rfl ?_
      refine b_ri rfl rfl ?_
      show ex_q (dt_fg L ρ) rc (d + 1, (46, 69, [some (eR a0), some (eJ (a1)), none, some (eI (v1))], [eI (0)]), f :: F, μ)
      exact b_ri rfl rfl (K μ (0) hI F0 (by decide))
    · have b19 : 0 ≤ v11 ∧ v11 ≤ 511 := by omega
      refine w_t (np := 28) (l2 := [some (eR a0), some (eJ (a1)), none, some (eI (v1))]) (s2 := [eR a0]) rfl (s_an rfl (pos_g hI gA0 (by decide))) rfl ?_
      refine w_gf (np := 31) (v := eR v14) rfl rfl (hI.kd gA0 (by decide) (n := 3) rfl) (by rw [e15]; rfl) ?_
      refine w_t (np := 32) (l2 := [some (eR a0), some (eJ (a1)), none, some (eI (v1))]) (s2 := [eR a0, eR v14]) rfl (s_an rfl (pos_g hI gA0 (by decide))) rfl ?_
      refine w_gf (np := 35) (v := eI (v11)) rfl rfl (hI.kd gA0 (by decide) (n := 3) rfl) (by rw [e12]; rfl) ?_
      refine w_t (np := 36) (l2 := [some (eR a0), some (eJ (a1)), none, some (eI (v1))]) (s2 := [eJ (a1), eI (v11), eR v14]) rfl rfl rfl ?_
      refine j_sl (np := 37) rfl rfl hI b16 (by decide) (n := 512) rfl rfl (lo := -9223372036854775808) (hi := 9223372036854775807) (fun _ => rfl) (by omega) (by omega) (by omega) ?_
      intro m19 I20 W21
      have F22 : Fr l_46_2 0 0 g μ m19 := F0.v W21 b16 rfl rfl
      refine w_t (np := 38) (l2 := [some (eR a0), some (eJ (a1)), none, some (eI (v1))]) (s2 := [eR a0]) rfl (s_an rfl (pos_g I20 gA0 (by decide))) rfl ?_
      refine w_t (np := 39) (l2 := [some (eR a0), some (eJ (a1)), none, some (eI (v1))]) (s2 := [eR a0, eR a0]) rfl rfl rfl ?_
      refine w_gf (np := 42) (v := eI (v11)) rfl rfl (I20.kd gA0 (by decide) (n := 3) rfl) (by rw [(W21.addr e12 b16 gA0 (by decide))]; rfl) ?_
      refine w_t (np := 43) (l2 := [some (eR a0), some (eJ (a1)), none, some (eI (v1))]) (s2 := [eI (1), eI (v11), eR a0]) rfl rfl rfl ?_
      obtain ⟨v23, e24⟩ : ∃ zz : Int, zz = (v11) + (1) := ⟨_, rfl⟩
      have b25 : 1 ≤ v23 ∧ v23 ≤ 512 := by omega
      refine w_t (np := 44) (l2 := [some (eR a0), some (eJ (a1)), none, some (eI (v1))]) (s2 := [eI (v23), eR a0]) rfl (b_iadd (by rw [← e24]; exact ev_w_in (by omega) (by omega))) rfl ?_
      refine j_pf (np := 47) (w := v23) rfl rfl I20 gA0 (by decide) (n := 3) rfl rfl (hO_i (lo := 0) (hi := 512) rfl (by omega)) ?_
      intro m26 I27 W28
      have F29 : Fr l_46_2 0 0 g μ m26 := F22.w W28 gA0 rfl
      refine w_t (np := 48) (l2 := [some (eR a0), some (eJ (a1)), none, some (eI (v1))]) (s2 := [eR a0]) rfl (s_an rfl (pos_g I27 gA0 (by decide))) rfl ?_
      refine w_gf (np := 51) (v := eR v3) rfl rfl (I27.kd gA0 (by decide) (n := 3) rfl) (by rw [(W28.slot (W21.addr e4 b16 gA0 (by decide)) (by decide))]; rfl) ?_
      refine w_t (np := 52) (l2 := [some (eR a0), some (eJ (a1)), none, some (eI (v1))]) (s2 := [eI (v1), eR v3]) rfl rfl rfl ?_
      refine w_t (np := 53) (l2 := [some (eR a0), some (eJ (a1)), none, some (eI (v1))]) (s2 := [eR a0, eI (v1), eR v3]) rfl (s_an rfl (pos_g I27 gA0 (by decide))) rfl ?_
      refine w_gf (np := 56) (v := eI (v23)) rfl rfl (I27.kd gA0 (by decide) (n := 3) rfl) (by rw [W28.at]; rfl) ?_
      refine j_as (np := 57) rfl rfl I27 b5 (by decide) (n := 1024) rfl rfl (lo := 0) (hi := 512) (fun _ => rfl) (by omega) (by omega) (by omega) ?_
      intro m30 I31 W32
      have F33 : Fr l_46_2 0 0 g μ m30 := F29.v W32 b5 rfl rfl
      refine w_t (np := 58) (l2 := [some (eR a0), some (eJ (a1)), none, some (eI (v1))]) (s2 := [eR a0]) rfl (s_an rfl (pos_g I31 gA0 (by decide))) rfl ?_
      refine w_gf (np := 61) (v := eR v3) rfl rfl (I31.kd gA0 (by decide) (n := 3) rfl) (by rw [(W32.addr (W28.slot (W21.addr e4 b16 gA0 (by decide)) (by decide)) b5 gA0 (by decide))]; rfl) ?_
      refine w_t (np := 62) (l2 := [some (eR a0), some (eJ (a1)), none, some (eI (v1))]) (s2 := [eI (v1), eR v3]) rfl rfl rfl ?_
      refine j_al (np := 63) rfl rfl I31 b5 (by decide) (n := 1024) rfl rfl (lo := 0) (hi := 512) (fun _ => rfl) (by omega) (by omega) ?_
      intro v34 e35 b36
      refine w_t (np := 64) (l2 := [some (eR a0), some (eJ (a1)), none, some (eI (v1))]) (s2 := [eI (1), eI (v34)]) rfl rfl rfl ?_
      obtain ⟨v37, e38⟩ : ∃ zz : Int, zz = (v34) - (1) := ⟨_, rfl⟩
      have b39 : -1 ≤ v37 ∧ v37 ≤ 511 := by omega
      refine w_t (np := 65) (l2 := [some (eR a0), some (eJ (a1)), none, some (eI (v1))]) (s2 := [eI (v37)]) rfl (b_isub (by rw [← e38]; exact ev_w_in (by omega) (by omega))) rfl ?_
      refine w_t (np := 66) (l2 := [some (eR a0), some (eJ (a1)), none, some (eI (v1))]) (s2 := [eI (0), eI (v37)]) rfl rfl rfl ?_
      refine w_cu (np := 69) (as := [eI (v37), eI (0)]) (l2 := [some (eI (v37)), some (eI (0))]) (rest := []) rfl rfl rfl (Nat.ble_eq.mp rfl) rfl rfl rfl rfl ?_
      refine w_t (np := 1) (l2 := [some (eI (v37)), some (eI (0))]) (s2 := [eI (v37)]) rfl rfl rfl ?_
      refine w_t (np := 2) (l2 := [some (eI (v37)), some (eI (0))]) (s2 := [eI (0), eI (v37)]) rfl rfl rfl ?_
      refine b_clt (t1 := 9) (t2 := 5) rfl rfl rfl (ev_w_in (by omega) (by omega)) rfl (fun g40 => ?_) (fun g40 => ?_)
      · have b41 : -1 ≤ v37 ∧ v37 ≤ -1 := by omega
        refine w_t (np := 10) (l2 := [some (eI (v37)), some (eI (0))]) (s2 := [eI (0)]) rfl rfl rfl ?_
        refine b_ri rfl rfl ?_
        show ex_q (dt_fg L ρ) rc (d + 1, (46, 69, [some (eR a0), some (eJ (a1)), none, some (eI (v1))], [eI (0)]), f :: F, m30)
        exact b_ri rfl rfl (K m30 (0) I31 F33 (by decide))
      · have b41 : 0 ≤ v37 ∧ v37 ≤ 511 := by omega
        refine w_t (np := 6) (l2 := [some (eI (v37)), some (eI (0))]) (s2 := [eI (v37)]) rfl rfl rfl ?_
        refine w_go (t1 := 10) rfl rfl ?_
        refine b_ri rfl rfl ?_
        show ex_q (dt_fg L ρ) rc (d + 1, (46, 69, [some (eR a0), some (eJ (a1)), none, some (eI (v1))], [eI (v37)]), f :: F, m30)
        exact b_ri rfl rfl (K m30 (v37) I31 F33 (by omega))
def l_67 : List Nat := [6149, 6150, 6151, 6152]
theorem s_67 {L : Nat} {ρ : Nat → Int} {rc : eQ} {d : Nat} {f : eFr} {F : List eFr} {μ : eM} {g : Nat → Nat} {a0 : Nat} (hI : SI g μ) (gA0 : g a0 = 24) (K : ∀ (μ2 : eM), SI g μ2 → Fr l_67 0 0 g μ μ2 → ex_q (dt_fg L ρ) rc (d + 3, (f.1, f.2.1, f.2.2.1, f.2.2.2), F, μ2)) : ex_q (dt_fg L ρ) rc (d + 2, (67, 0, [some (eR a0), none, none], []), f :: F, μ) := by
  have F0 : Fr l_67 0 0 g μ μ := Fr.r
  refine w_t (np := 1) (l2 := [some (eR a0), none, none]) (s2 := [eR a0]) rfl (s_an rfl (pos_g hI gA0 (by decide))) rfl ?_
  refine j_gi (np := 4) rfl rfl rfl hI gA0 (by decide) (n := 11) rfl rfl (lo := 0) (hi := 900) rfl ?_
  intro v1 e2 b3
  refine w_t (np := 5) (l2 := [some (eR a0), some (eI (v1)), none]) (s2 := []) rfl rfl rfl ?_
  have hL5 : ∀ (n4 : Nat) (m8 : eM) (i6 : Int), SI g m8 → Fr l_67 0 0 g μ m8 → (0 ≤ i6 ∧ i6 ≤ 900) → m8.1 a0 6 = v1 → n4 = (900 - i6).toNat → ex_q (dt_fg L ρ) rc (d + 2, (67, 5, [some (eR a0), some (eI (i6)), none], []), f :: F, m8) := by
    intro n4
    induction n4 using Nat.strongRecOn with
    | _ n4 ih5 =>
    intro m8 i6 I9 F10 b7 k11 hn12
    refine w_t (np := 6) (l2 := [some (eR a0), some (eI (i6)), none]) (s2 := [eI (i6)]) rfl rfl rfl ?_
    refine w_t (np := 7) (l2 := [some (eR a0), some (eI (i6)), none]) (s2 := [eR a0, eI (i6)]) rfl (s_an rfl (pos_g I9 gA0 (by decide))) rfl ?_
    refine j_gi (np := 10) rfl rfl rfl I9 gA0 (by decide) (n := 11) rfl rfl (lo := 0) (hi := 900) rfl ?_
    intro v13 e14 b15
    refine b_cge (t1 := 39) (t2 := 13) rfl rfl rfl (ev_w_in (by omega) (by omega)) (ev_w_in (by omega) (by omega)) (fun g16 => ?_) (fun g16 => ?_)
    · refine w_t (np := 40) (l2 := [some (eR a0), some (eI (i6)), none]) (s2 := [eR a0]) rfl (s_an rfl (pos_g I9 gA0 (by decide))) rfl ?_
      refine w_t (np := 41) (l2 := [some (eR a0), some (eI (i6)), none]) (s2 := [eI (i6), eR a0]) rfl rfl rfl ?_
      refine j_pf (np := 44) (w := i6) rfl rfl I9 gA0 (by decide) (n := 11) rfl rfl (hO_i (lo := 0) (hi := 900) rfl (by omega)) ?_
      intro m17 I18 W19
      have F20 : Fr l_67 0 0 g μ m17 := F10.w W19 gA0 rfl
      refine w_t (np := 45) (l2 := [some (eR a0), some (eI (i6)), none]) (s2 := [eR a0]) rfl (s_an rfl (pos_g I18 gA0 (by decide))) rfl ?_
      refine w_t (np := 46) (l2 := [some (eR a0), some (eI (i6)), none]) (s2 := [eI (i6), eR a0]) rfl rfl rfl ?_
      refine w_cw (np := 49) (as := [eI (i6)]) (l2 := [some (eR a0), some (eI (i6))]) (rest := []) rfl rfl rfl (Nat.ble_eq.mp rfl) rfl rfl rfl (I18.kd gA0 (by decide) (n := 11) rfl) rfl ?_
      refine s_64 (a1 := i6) I18 gA0 (by omega) (W19.slot e14 (by decide)) ?_
      intro v21 b22 h23
      show ex_q (dt_fg L ρ) rc (d + 2, (67, 49, [some (eR a0), some (eI (i6)), none], [eI (v21)]), f :: F, m17)
      refine w_t (np := 50) (l2 := [some (eR a0), some (eI (i6)), some (eI (v21))]) (s2 := []) rfl rfl rfl ?_
      refine w_t (np := 51) (l2 := [some (eR a0), some (eI (i6)), some (eI (v21))]) (s2 := [eI (v21)]) rfl rfl rfl ?_
      refine b_ige (t1 := 62) (t2 := 54) rfl rfl rfl (ev_w_in (by omega) (by omega)) (fun g24 => ?_) (fun g24 => ?_)
      · have b25 : 0 ≤ v21 ∧ v21 ≤ 255 := by omega
        refine w_t (np := 63) (l2 := [some (eR a0), some (eI (i6)), some (eI (v21))]) (s2 := [eI (v21)]) rfl rfl rfl ?_
        refine w_cu (np := 66) (as := [eI (v21)]) (l2 := [some (eI (v21))]) (rest := []) rfl rfl rfl (Nat.ble_eq.mp rfl) rfl rfl rfl rfl ?_
        refine w_t (np := 1) (l2 := [some (eI (v21))]) (s2 := [eI (v21)]) rfl rfl rfl ?_
        refine w_t (np := 3) (l2 := [some (eI (v21))]) (s2 := [eI (97), eI (v21)]) rfl rfl rfl ?_
        refine b_clt (t1 := 16) (t2 := 6) rfl rfl rfl (ev_w_in (by omega) (by omega)) rfl (fun g25 => ?_) (fun g25 => ?_)
        · have b26 : 0 ≤ v21 ∧ v21 ≤ 96 := by omega
          refine w_t (np := 17) (l2 := [some (eI (v21))]) (s2 := [eI (0)]) rfl rfl rfl ?_
          refine b_rz rfl rfl (Or.inl rfl) ?_
          show ex_q (dt_fg L ρ) rc (d + 2, (67, 66, [some (eR a0), some (eI (i6)), some (eI (v21))], [eI (0)]), f :: F, m17)
          refine b_ieq (t1 := 99) (t2 := 69) rfl rfl rfl rfl (fun g26 => ?_) (fun g26 => absurd g26 (by decide))
          refine w_t (np := 100) (l2 := [some (eR a0), some (eI (i6)), some (eI (v21))]) (s2 := [eI (v21)]) rfl rfl rfl ?_
          refine w_cu (np := 103) (as := [eI (v21)]) (l2 := [some (eI (v21))]) (rest := []) rfl rfl rfl (Nat.ble_eq.mp rfl) rfl rfl rfl rfl ?_
          refine w_t (np := 1) (l2 := [some (eI (v21))]) (s2 := [eI (v21)]) rfl rfl rfl ?_
          refine w_t (np := 3) (l2 := [some (eI (v21))]) (s2 := [eI (48), eI (v21)]) rfl rfl rfl ?_
          refine b_clt (t1 := 16) (t2 := 6) rfl rfl rfl (ev_w_in (by omega) (by omega)) rfl (fun g27 => ?_) (fun g27 => ?_)
          · have b28 : 0 ≤ v21 ∧ v21 ≤ 47 := by omega
            refine w_t (np := 17) (l2 := [some (eI (v21))]) (s2 := [eI (0)]) rfl rfl rfl ?_
            refine b_rz rfl rfl (Or.inl rfl) ?_
            show ex_q (dt_fg L ρ) rc (d + 2, (67, 103, [some (eR a0), some (eI (i6)), some (eI (v21))], [eI (0)]), f :: F, m17)
            refine b_ieq (t1 := 115) (t2 := 106) rfl rfl rfl rfl (fun g28 => ?_) (fun g28 => absurd g28 (by decide))
            refine w_t (np := 116) (l2 := [some (eR a0), some (eI (i6)), some (eI (v21))]) (s2 := [eR a0]) rfl (s_an rfl (pos_g I18 gA0 (by decide))) rfl ?_
            refine w_t (np := 117) (l2 := [some (eR a0), some (eI (i6)), some (eI (v21))]) (s2 := [eI (v21), eR a0]) rfl rfl rfl ?_
            refine w_t (np := 119) (l2 := [some (eR a0), some (eI (i6)), some (eI (v21))]) (s2 := [eI (45), eI (v21), eR a0]) rfl rfl rfl ?_
            refine b_ceq (t1 := 128) (t2 := 122) rfl rfl rfl (ev_w_in (by omega) (by omega)) rfl (fun g29 => ?_) (fun g29 => ?_)
            · have b30 : 45 ≤ v21 ∧ v21 ≤ 45 := by omega
              refine w_t (np := 129) (l2 := [some (eR a0), some (eI (i6)), some (eI (v21))]) (s2 := [eI (3), eR a0]) rfl rfl rfl ?_
              refine w_go (t1 := 133) rfl rfl ?_
              refine j_pf (np := 136) (w := 3) rfl rfl I18 gA0 (by decide) (n := 11) rfl rfl (hO_i (lo := -2147483648) (hi := 2147483647) rfl (by decide)) ?_
              intro m30 I31 W32
              have F33 : Fr l_67 0 0 g μ m30 := F20.w W32 gA0 rfl
              obtain ⟨v34, e35⟩ : ∃ zz : Int, zz = (i6) + (1) := ⟨_, rfl⟩
              have b36 : 1 ≤ v34 ∧ v34 ≤ 901 := by omega
              refine w_t (np := 139) (l2 := [some (eR a0), some (eI (v34)), some (eI (v21))]) (s2 := []) rfl (b_iinc rfl (by rw [← e35]; exact ev_w_in (by omega) (by omega)) rfl) rfl ?_
              refine w_t (np := 140) (l2 := [some (eR a0), some (eI (v34)), some (eI (v21))]) (s2 := [eR a0]) rfl (s_an rfl (pos_g I31 gA0 (by decide))) rfl ?_
              refine w_t (np := 141) (l2 := [some (eR a0), some (eI (v34)), some (eI (v21))]) (s2 := [eI (v34), eR a0]) rfl rfl rfl ?_
              refine j_pf (np := 144) (w := v34) rfl rfl I31 gA0 (by decide) (n := 11) rfl rfl (hO_i (lo := 0) (hi := 900) rfl (by omega)) ?_
              intro m37 I38 W39
              have F40 : Fr l_67 0 0 g μ m37 := F33.w W39 gA0 rfl
              exact v_rv rfl rfl (K m37 I38 F40)
            · refine w_t (np := 123) (l2 := [some (eR a0), some (eI (i6)), some (eI (v21))]) (s2 := [eI (v21), eR a0]) rfl rfl rfl ?_
              refine w_t (np := 125) (l2 := [some (eR a0), some (eI (i6)), some (eI (v21))]) (s2 := [eI (59), eI (v21), eR a0]) rfl rfl rfl ?_
              refine b_cne (t1 := 132) (t2 := 128) rfl rfl rfl (ev_w_in (by omega) (by omega)) rfl (fun g30 => ?_) (fun g30 => False.elim (by omega))
              refine w_t (np := 133) (l2 := [some (eR a0), some (eI (i6)), some (eI (v21))]) (s2 := [eI (4), eR a0]) rfl rfl rfl ?_
              refine j_pf (np := 136) (w := 4) rfl rfl I18 gA0 (by decide) (n := 11) rfl rfl (hO_i (lo := -2147483648) (hi := 2147483647) rfl (by decide)) ?_
              intro m31 I32 W33
              have F34 : Fr l_67 0 0 g μ m31 := F20.w W33 gA0 rfl
              obtain ⟨v35, e36⟩ : ∃ zz : Int, zz = (i6) + (1) := ⟨_, rfl⟩
              have b37 : 1 ≤ v35 ∧ v35 ≤ 901 := by omega
              refine w_t (np := 139) (l2 := [some (eR a0), some (eI (v35)), some (eI (v21))]) (s2 := []) rfl (b_iinc rfl (by rw [← e36]; exact ev_w_in (by omega) (by omega)) rfl) rfl ?_
              refine w_t (np := 140) (l2 := [some (eR a0), some (eI (v35)), some (eI (v21))]) (s2 := [eR a0]) rfl (s_an rfl (pos_g I32 gA0 (by decide))) rfl ?_
              refine w_t (np := 141) (l2 := [some (eR a0), some (eI (v35)), some (eI (v21))]) (s2 := [eI (v35), eR a0]) rfl rfl rfl ?_
              refine j_pf (np := 144) (w := v35) rfl rfl I32 gA0 (by decide) (n := 11) rfl rfl (hO_i (lo := 0) (hi := 900) rfl (by omega)) ?_
              intro m38 I39 W40
              have F41 : Fr l_67 0 0 g μ m38 := F34.w W40 gA0 rfl
              exact v_rv rfl rfl (K m38 I39 F41)
          · have b28 : 48 ≤ v21 ∧ v21 ≤ 96 := by omega
            refine w_t (np := 7) (l2 := [some (eI (v21))]) (s2 := [eI (v21)]) rfl rfl rfl ?_
            refine w_t (np := 9) (l2 := [some (eI (v21))]) (s2 := [eI (57), eI (v21)]) rfl rfl rfl ?_
            refine b_cgt (t1 := 16) (t2 := 12) rfl rfl rfl (ev_w_in (by omega) (by omega)) rfl (fun g28 => ?_) (fun g28 => ?_)
            · have b29 : 58 ≤ v21 ∧ v21 ≤ 96 := by omega
              refine w_t (np := 17) (l2 := [some (eI (v21))]) (s2 := [eI (0)]) rfl rfl rfl ?_
              refine b_rz rfl rfl (Or.inl rfl) ?_
              show ex_q (dt_fg L ρ) rc (d + 2, (67, 103, [some (eR a0), some (eI (i6)), some (eI (v21))], [eI (0)]), f :: F, m17)
              refine b_ieq (t1 := 115) (t2 := 106) rfl rfl rfl rfl (fun g29 => ?_) (fun g29 => absurd g29 (by decide))
              refine w_t (np := 116) (l2 := [some (eR a0), some (eI (i6)), some (eI (v21))]) (s2 := [eR a0]) rfl (s_an rfl (pos_g I18 gA0 (by decide))) rfl ?_
              refine w_t (np := 117) (l2 := [some (eR a0), some (eI (i6)), some (eI (v21))]) (s2 := [eI (v21), eR a0]) rfl rfl rfl ?_
              refine w_t (np := 119) (l2 := [some (eR a0), some (eI (i6)), some (eI (v21))]) (s2 := [eI (45), eI (v21), eR a0]) rfl rfl rfl ?_
              refine b_ceq (t1 := 128) (t2 := 122) rfl rfl rfl (ev_w_in (by omega) (by omega)) rfl (fun g30 => False.elim (by omega)) (fun g30 => ?_)
              refine w_t (np := 123) (l2 := [some (eR a0), some (eI (i6)), some (eI (v21))]) (s2 := [eI (v21), eR a0]) rfl rfl rfl ?_
              refine w_t (np := 125) (l2 := [some (eR a0), some (eI (i6)), some (eI (v21))]) (s2 := [eI (59), eI (v21), eR a0]) rfl rfl rfl ?_
              refine b_cne (t1 := 132) (t2 := 128) rfl rfl rfl (ev_w_in (by omega) (by omega)) rfl (fun g31 => ?_) (fun g31 => ?_)
              · refine w_t (np := 133) (l2 := [some (eR a0), some (eI (i6)), some (eI (v21))]) (s2 := [eI (4), eR a0]) rfl rfl rfl ?_
                refine j_pf (np := 136) (w := 4) rfl rfl I18 gA0 (by decide) (n := 11) rfl rfl (hO_i (lo := -2147483648) (hi := 2147483647) rfl (by decide)) ?_
                intro m32 I33 W34
                have F35 : Fr l_67 0 0 g μ m32 := F20.w W34 gA0 rfl
                obtain ⟨v36, e37⟩ : ∃ zz : Int, zz = (i6) + (1) := ⟨_, rfl⟩
                have b38 : 1 ≤ v36 ∧ v36 ≤ 901 := by omega
                refine w_t (np := 139) (l2 := [some (eR a0), some (eI (v36)), some (eI (v21))]) (s2 := []) rfl (b_iinc rfl (by rw [← e37]; exact ev_w_in (by omega) (by omega)) rfl) rfl ?_
                refine w_t (np := 140) (l2 := [some (eR a0), some (eI (v36)), some (eI (v21))]) (s2 := [eR a0]) rfl (s_an rfl (pos_g I33 gA0 (by decide))) rfl ?_
                refine w_t (np := 141) (l2 := [some (eR a0), some (eI (v36)), some (eI (v21))]) (s2 := [eI (v36), eR a0]) rfl rfl rfl ?_
                refine j_pf (np := 144) (w := v36) rfl rfl I33 gA0 (by decide) (n := 11) rfl rfl (hO_i (lo := 0) (hi := 900) rfl (by omega)) ?_
                intro m39 I40 W41
                have F42 : Fr l_67 0 0 g μ m39 := F35.w W41 gA0 rfl
                exact v_rv rfl rfl (K m39 I40 F42)
              · have b32 : 59 ≤ v21 ∧ v21 ≤ 59 := by omega
                refine w_t (np := 129) (l2 := [some (eR a0), some (eI (i6)), some (eI (v21))]) (s2 := [eI (3), eR a0]) rfl rfl rfl ?_
                refine w_go (t1 := 133) rfl rfl ?_
                refine j_pf (np := 136) (w := 3) rfl rfl I18 gA0 (by decide) (n := 11) rfl rfl (hO_i (lo := -2147483648) (hi := 2147483647) rfl (by decide)) ?_
                intro m32 I33 W34
                have F35 : Fr l_67 0 0 g μ m32 := F20.w W34 gA0 rfl
                obtain ⟨v36, e37⟩ : ∃ zz : Int, zz = (i6) + (1) := ⟨_, rfl⟩
                have b38 : 1 ≤ v36 ∧ v36 ≤ 901 := by omega
                refine w_t (np := 139) (l2 := [some (eR a0), some (eI (v36)), some (eI (v21))]) (s2 := []) rfl (b_iinc rfl (by rw [← e37]; exact ev_w_in (by omega) (by omega)) rfl) rfl ?_
                refine w_t (np := 140) (l2 := [some (eR a0), some (eI (v36)), some (eI (v21))]) (s2 := [eR a0]) rfl (s_an rfl (pos_g I33 gA0 (by decide))) rfl ?_
                refine w_t (np := 141) (l2 := [some (eR a0), some (eI (v36)), some (eI (v21))]) (s2 := [eI (v36), eR a0]) rfl rfl rfl ?_
                refine j_pf (np := 144) (w := v36) rfl rfl I33 gA0 (by decide) (n := 11) rfl rfl (hO_i (lo := 0) (hi := 900) rfl (by omega)) ?_
                intro m39 I40 W41
                have F42 : Fr l_67 0 0 g μ m39 := F35.w W41 gA0 rfl
                exact v_rv rfl rfl (K m39 I40 F42)
            · have b29 : 48 ≤ v21 ∧ v21 ≤ 57 := by omega
              refine w_t (np := 13) (l2 := [some (eI (v21))]) (s2 := [eI (1)]) rfl rfl rfl ?_
              refine w_go (t1 := 17) rfl rfl ?_
              refine b_rz rfl rfl (Or.inr rfl) ?_
              show ex_q (dt_fg L ρ) rc (d + 2, (67, 103, [some (eR a0), some (eI (i6)), some (eI (v21))], [eI (1)]), f :: F, m17)
              refine b_ieq (t1 := 115) (t2 := 106) rfl rfl rfl rfl (fun g29 => absurd g29 (by decide)) (fun g29 => ?_)
              refine w_t (np := 107) (l2 := [some (eR a0), some (eI (i6)), some (eI (v21))]) (s2 := [eR a0]) rfl (s_an rfl (pos_g I18 gA0 (by decide))) rfl ?_
              refine w_t (np := 108) (l2 := [some (eR a0), some (eI (i6)), some (eI (v21))]) (s2 := [eI (i6), eR a0]) rfl rfl rfl ?_
              refine w_cw (np := 111) (as := [eI (i6)]) (l2 := [some (eR a0), some (eI (i6)), none]) (rest := []) rfl rfl rfl (Nat.ble_eq.mp rfl) rfl rfl rfl (I18.kd gA0 (by decide) (n := 11) rfl) rfl ?_
              refine s_68 (a1 := i6) I18 gA0 (by omega) ?_
              intro m30 v33 I31 F32 b34
              have F35 : Fr l_67 0 0 g μ m30 := F20.t F32 rfl
              show ex_q (dt_fg L ρ) rc (d + 2, (67, 111, [some (eR a0), some (eI (i6)), some (eI (v21))], [eI (v33)]), f :: F, m30)
              refine w_t (np := 112) (l2 := [some (eR a0), some (eI (v33)), some (eI (v21))]) (s2 := []) rfl rfl rfl ?_
              refine w_go (t1 := 139) rfl rfl ?_
              refine w_t (np := 140) (l2 := [some (eR a0), some (eI (v33)), some (eI (v21))]) (s2 := [eR a0]) rfl (s_an rfl (pos_g I31 gA0 (by decide))) rfl ?_
              refine w_t (np := 141) (l2 := [some (eR a0), some (eI (v33)), some (eI (v21))]) (s2 := [eI (v33), eR a0]) rfl rfl rfl ?_
              refine j_pf (np := 144) (w := v33) rfl rfl I31 gA0 (by decide) (n := 11) rfl rfl (hO_i (lo := 0) (hi := 900) rfl (by omega)) ?_
              intro m36 I37 W38
              have F39 : Fr l_67 0 0 g μ m36 := F35.w W38 gA0 rfl
              exact v_rv rfl rfl (K m36 I37 F39)
        · have b26 : 97 ≤ v21 ∧ v21 ≤ 255 := by omega
          refine w_t (np := 7) (l2 := [some (eI (v21))]) (s2 := [eI (v21)]) rfl rfl rfl ?_
          refine w_t (np := 9) (l2 := [some (eI (v21))]) (s2 := [eI (122), eI (v21)]) rfl rfl rfl ?_
          refine b_cgt (t1 := 16) (t2 := 12) rfl rfl rfl (ev_w_in (by omega) (by omega)) rfl (fun g26 => ?_) (fun g26 => ?_)
          · have b27 : 123 ≤ v21 ∧ v21 ≤ 255 := by omega
            refine w_t (np := 17) (l2 := [some (eI (v21))]) (s2 := [eI (0)]) rfl rfl rfl ?_
            refine b_rz rfl rfl (Or.inl rfl) ?_
            show ex_q (dt_fg L ρ) rc (d + 2, (67, 66, [some (eR a0), some (eI (i6)), some (eI (v21))], [eI (0)]), f :: F, m17)
            refine b_ieq (t1 := 99) (t2 := 69) rfl rfl rfl rfl (fun g27 => ?_) (fun g27 => absurd g27 (by decide))
            refine w_t (np := 100) (l2 := [some (eR a0), some (eI (i6)), some (eI (v21))]) (s2 := [eI (v21)]) rfl rfl rfl ?_
            refine w_cu (np := 103) (as := [eI (v21)]) (l2 := [some (eI (v21))]) (rest := []) rfl rfl rfl (Nat.ble_eq.mp rfl) rfl rfl rfl rfl ?_
            refine w_t (np := 1) (l2 := [some (eI (v21))]) (s2 := [eI (v21)]) rfl rfl rfl ?_
            refine w_t (np := 3) (l2 := [some (eI (v21))]) (s2 := [eI (48), eI (v21)]) rfl rfl rfl ?_
            refine b_clt (t1 := 16) (t2 := 6) rfl rfl rfl (ev_w_in (by omega) (by omega)) rfl (fun g28 => False.elim (by omega)) (fun g28 => ?_)
            refine w_t (np := 7) (l2 := [some (eI (v21))]) (s2 := [eI (v21)]) rfl rfl rfl ?_
            refine w_t (np := 9) (l2 := [some (eI (v21))]) (s2 := [eI (57), eI (v21)]) rfl rfl rfl ?_
            refine b_cgt (t1 := 16) (t2 := 12) rfl rfl rfl (ev_w_in (by omega) (by omega)) rfl (fun g29 => ?_) (fun g29 => False.elim (by omega))
            refine w_t (np := 17) (l2 := [some (eI (v21))]) (s2 := [eI (0)]) rfl rfl rfl ?_
            refine b_rz rfl rfl (Or.inl rfl) ?_
            show ex_q (dt_fg L ρ) rc (d + 2, (67, 103, [some (eR a0), some (eI (i6)), some (eI (v21))], [eI (0)]), f :: F, m17)
            refine b_ieq (t1 := 115) (t2 := 106) rfl rfl rfl rfl (fun g30 => ?_) (fun g30 => absurd g30 (by decide))
            refine w_t (np := 116) (l2 := [some (eR a0), some (eI (i6)), some (eI (v21))]) (s2 := [eR a0]) rfl (s_an rfl (pos_g I18 gA0 (by decide))) rfl ?_
            refine w_t (np := 117) (l2 := [some (eR a0), some (eI (i6)), some (eI (v21))]) (s2 := [eI (v21), eR a0]) rfl rfl rfl ?_
            refine w_t (np := 119) (l2 := [some (eR a0), some (eI (i6)), some (eI (v21))]) (s2 := [eI (45), eI (v21), eR a0]) rfl rfl rfl ?_
            refine b_ceq (t1 := 128) (t2 := 122) rfl rfl rfl (ev_w_in (by omega) (by omega)) rfl (fun g31 => False.elim (by omega)) (fun g31 => ?_)
            refine w_t (np := 123) (l2 := [some (eR a0), some (eI (i6)), some (eI (v21))]) (s2 := [eI (v21), eR a0]) rfl rfl rfl ?_
            refine w_t (np := 125) (l2 := [some (eR a0), some (eI (i6)), some (eI (v21))]) (s2 := [eI (59), eI (v21), eR a0]) rfl rfl rfl ?_
            refine b_cne (t1 := 132) (t2 := 128) rfl rfl rfl (ev_w_in (by omega) (by omega)) rfl (fun g32 => ?_) (fun g32 => False.elim (by omega))
            refine w_t (np := 133) (l2 := [some (eR a0), some (eI (i6)), some (eI (v21))]) (s2 := [eI (4), eR a0]) rfl rfl rfl ?_
            refine j_pf (np := 136) (w := 4) rfl rfl I18 gA0 (by decide) (n := 11) rfl rfl (hO_i (lo := -2147483648) (hi := 2147483647) rfl (by decide)) ?_
            intro m33 I34 W35
            have F36 : Fr l_67 0 0 g μ m33 := F20.w W35 gA0 rfl
            obtain ⟨v37, e38⟩ : ∃ zz : Int, zz = (i6) + (1) := ⟨_, rfl⟩
            have b39 : 1 ≤ v37 ∧ v37 ≤ 901 := by omega
            refine w_t (np := 139) (l2 := [some (eR a0), some (eI (v37)), some (eI (v21))]) (s2 := []) rfl (b_iinc rfl (by rw [← e38]; exact ev_w_in (by omega) (by omega)) rfl) rfl ?_
            refine w_t (np := 140) (l2 := [some (eR a0), some (eI (v37)), some (eI (v21))]) (s2 := [eR a0]) rfl (s_an rfl (pos_g I34 gA0 (by decide))) rfl ?_
            refine w_t (np := 141) (l2 := [some (eR a0), some (eI (v37)), some (eI (v21))]) (s2 := [eI (v37), eR a0]) rfl rfl rfl ?_
            refine j_pf (np := 144) (w := v37) rfl rfl I34 gA0 (by decide) (n := 11) rfl rfl (hO_i (lo := 0) (hi := 900) rfl (by omega)) ?_
            intro m40 I41 W42
            have F43 : Fr l_67 0 0 g μ m40 := F36.w W42 gA0 rfl
            exact v_rv rfl rfl (K m40 I41 F43)
          · have b27 : 97 ≤ v21 ∧ v21 ≤ 122 := by omega
            refine w_t (np := 13) (l2 := [some (eI (v21))]) (s2 := [eI (1)]) rfl rfl rfl ?_
            refine w_go (t1 := 17) rfl rfl ?_
            refine b_rz rfl rfl (Or.inr rfl) ?_
            show ex_q (dt_fg L ρ) rc (d + 2, (67, 66, [some (eR a0), some (eI (i6)), some (eI (v21))], [eI (1)]), f :: F, m17)
            refine b_ieq (t1 := 99) (t2 := 69) rfl rfl rfl rfl (fun g27 => absurd g27 (by decide)) (fun g27 => ?_)
            refine w_t (np := 70) (l2 := [some (eR a0), some (eI (i6)), some (eI (v21))]) (s2 := [eR a0]) rfl (s_an rfl (pos_g I18 gA0 (by decide))) rfl ?_
            refine w_t (np := 71) (l2 := [some (eR a0), some (eI (i6)), some (eI (v21))]) (s2 := [eI (1), eR a0]) rfl rfl rfl ?_
            refine j_pf (np := 74) (w := 1) rfl rfl I18 gA0 (by decide) (n := 11) rfl rfl (hO_i (lo := -2147483648) (hi := 2147483647) rfl (by decide)) ?_
            intro m28 I29 W30
            have F31 : Fr l_67 0 0 g μ m28 := F20.w W30 gA0 rfl
            have hL74 : ∀ (n32 : Nat) (m36 : eM) (i34 : Int), SI g m36 → Fr l_67 0 0 g μ m36 → (0 ≤ i34 ∧ i34 ≤ 900) → m36.1 a0 6 = v1 → m36.1 a0 3 = v13 → m36.1 a0 5 = i6 → m36.1 a0 4 = 1 → n32 = (900 - i34).toNat → ex_q (dt_fg L ρ) rc (d + 2, (67, 74, [some (eR a0), some (eI (i34)), some (eI (v21))], []), f :: F, m36) := by
              intro n32
              induction n32 using Nat.strongRecOn with
              | _ n32 ih33 =>
              intro m36 i34 I37 F38 b35 k39 k40 k41 k42 hn43
              refine w_t (np := 75) (l2 := [some (eR a0), some (eI (i34)), some (eI (v21))]) (s2 := [eI (i34)]) rfl rfl rfl ?_
              refine w_t (np := 76) (l2 := [some (eR a0), some (eI (i34)), some (eI (v21))]) (s2 := [eR a0, eI (i34)]) rfl (s_an rfl (pos_g I37 gA0 (by decide))) rfl ?_
              refine w_gf (np := 79) (v := eI (v13)) rfl rfl (I37.kd gA0 (by decide) (n := 11) rfl) (by rw [k40]; rfl) ?_
              refine b_cge (t1 := 139) (t2 := 82) rfl rfl rfl (ev_w_in (by omega) (by omega)) (ev_w_in (by omega) (by omega)) (fun g44 => ?_) (fun g44 => ?_)
              · refine w_t (np := 140) (l2 := [some (eR a0), some (eI (i34)), some (eI (v21))]) (s2 := [eR a0]) rfl (s_an rfl (pos_g I37 gA0 (by decide))) rfl ?_
                refine w_t (np := 141) (l2 := [some (eR a0), some (eI (i34)), some (eI (v21))]) (s2 := [eI (i34), eR a0]) rfl rfl rfl ?_
                refine j_pf (np := 144) (w := i34) rfl rfl I37 gA0 (by decide) (n := 11) rfl rfl (hO_i (lo := 0) (hi := 900) rfl (by omega)) ?_
                intro m45 I46 W47
                have F48 : Fr l_67 0 0 g μ m45 := F38.w W47 gA0 rfl
                exact v_rv rfl rfl (K m45 I46 F48)
              · have b45 : 0 ≤ i34 ∧ i34 ≤ 899 := by omega
                have b46 : 1 ≤ v13 ∧ v13 ≤ 900 := by omega
                refine w_t (np := 83) (l2 := [some (eR a0), some (eI (i34)), some (eI (v21))]) (s2 := [eR a0]) rfl (s_an rfl (pos_g I37 gA0 (by decide))) rfl ?_
                refine w_t (np := 84) (l2 := [some (eR a0), some (eI (i34)), some (eI (v21))]) (s2 := [eI (i34), eR a0]) rfl rfl rfl ?_
                refine w_cw (np := 87) (as := [eI (i34)]) (l2 := [some (eR a0), some (eI (i34))]) (rest := []) rfl rfl rfl (Nat.ble_eq.mp rfl) rfl rfl rfl (I37.kd gA0 (by decide) (n := 11) rfl) rfl ?_
                refine s_64 (a1 := i34) I37 gA0 (by omega) k40 ?_
                intro v45 b46 h47
                show ex_q (dt_fg L ρ) rc (d + 2, (67, 87, [some (eR a0), some (eI (i34)), some (eI (v21))], [eI (v45)]), f :: F, m36)
                refine w_cu (np := 90) (as := [eI (v45)]) (l2 := [some (eI (v45))]) (rest := []) rfl rfl rfl (Nat.ble_eq.mp rfl) rfl rfl rfl rfl ?_
                refine w_t (np := 1) (l2 := [some (eI (v45))]) (s2 := [eI (v45)]) rfl rfl rfl ?_
                refine w_t (np := 3) (l2 := [some (eI (v45))]) (s2 := [eI (97), eI (v45)]) rfl rfl rfl ?_
                refine b_clt (t1 := 16) (t2 := 6) rfl rfl rfl (ev_w_in (by omega) (by omega)) rfl (fun g48 => ?_) (fun g48 => ?_)
                · have b49 : -1 ≤ v45 ∧ v45 ≤ 96 := by omega
                  refine w_t (np := 17) (l2 := [some (eI (v45))]) (s2 := [eI (0)]) rfl rfl rfl ?_
                  refine b_rz rfl rfl (Or.inl rfl) ?_
                  show ex_q (dt_fg L ρ) rc (d + 2, (67, 90, [some (eR a0), some (eI (i34)), some (eI (v21))], [eI (0)]), f :: F, m36)
                  refine b_ieq (t1 := 139) (t2 := 93) rfl rfl rfl rfl (fun g49 => ?_) (fun g49 => absurd g49 (by decide))
                  refine w_t (np := 140) (l2 := [some (eR a0), some (eI (i34)), some (eI (v21))]) (s2 := [eR a0]) rfl (s_an rfl (pos_g I37 gA0 (by decide))) rfl ?_
                  refine w_t (np := 141) (l2 := [some (eR a0), some (eI (i34)), some (eI (v21))]) (s2 := [eI (i34), eR a0]) rfl rfl rfl ?_
                  refine j_pf (np := 144) (w := i34) rfl rfl I37 gA0 (by decide) (n := 11) rfl rfl (hO_i (lo := 0) (hi := 900) rfl (by omega)) ?_
                  intro m50 I51 W52
                  have F53 : Fr l_67 0 0 g μ m50 := F38.w W52 gA0 rfl
                  exact v_rv rfl rfl (K m50 I51 F53)
                · have b49 : 97 ≤ v45 ∧ v45 ≤ 255 := by omega
                  refine w_t (np := 7) (l2 := [some (eI (v45))]) (s2 := [eI (v45)]) rfl rfl rfl ?_
                  refine w_t (np := 9) (l2 := [some (eI (v45))]) (s2 := [eI (122), eI (v45)]) rfl rfl rfl ?_
                  refine b_cgt (t1 := 16) (t2 := 12) rfl rfl rfl (ev_w_in (by omega) (by omega)) rfl (fun g49 => ?_) (fun g49 => ?_)
                  · have b50 : 123 ≤ v45 ∧ v45 ≤ 255 := by omega
                    refine w_t (np := 17) (l2 := [some (eI (v45))]) (s2 := [eI (0)]) rfl rfl rfl ?_
                    refine b_rz rfl rfl (Or.inl rfl) ?_
                    show ex_q (dt_fg L ρ) rc (d + 2, (67, 90, [some (eR a0), some (eI (i34)), some (eI (v21))], [eI (0)]), f :: F, m36)
                    refine b_ieq (t1 := 139) (t2 := 93) rfl rfl rfl rfl (fun g50 => ?_) (fun g50 => absurd g50 (by decide))
                    refine w_t (np := 140) (l2 := [some (eR a0), some (eI (i34)), some (eI (v21))]) (s2 := [eR a0]) rfl (s_an rfl (pos_g I37 gA0 (by decide))) rfl ?_
                    refine w_t (np := 141) (l2 := [some (eR a0), some (eI (i34)), some (eI (v21))]) (s2 := [eI (i34), eR a0]) rfl rfl rfl ?_
                    refine j_pf (np := 144) (w := i34) rfl rfl I37 gA0 (by decide) (n := 11) rfl rfl (hO_i (lo := 0) (hi := 900) rfl (by omega)) ?_
                    intro m51 I52 W53
                    have F54 : Fr l_67 0 0 g μ m51 := F38.w W53 gA0 rfl
                    exact v_rv rfl rfl (K m51 I52 F54)
                  · have b50 : 97 ≤ v45 ∧ v45 ≤ 122 := by omega
                    refine w_t (np := 13) (l2 := [some (eI (v45))]) (s2 := [eI (1)]) rfl rfl rfl ?_
                    refine w_go (t1 := 17) rfl rfl ?_
                    refine b_rz rfl rfl (Or.inr rfl) ?_
                    show ex_q (dt_fg L ρ) rc (d + 2, (67, 90, [some (eR a0), some (eI (i34)), some (eI (v21))], [eI (1)]), f :: F, m36)
                    refine b_ieq (t1 := 139) (t2 := 93) rfl rfl rfl rfl (fun g50 => absurd g50 (by decide)) (fun g50 => ?_)
                    obtain ⟨v51, e52⟩ : ∃ zz : Int, zz = (i34) + (1) := ⟨_, rfl⟩
                    have b53 : 1 ≤ v51 ∧ v51 ≤ 900 := by omega
                    refine w_t (np := 96) (l2 := [some (eR a0), some (eI (v51)), some (eI (v21))]) (s2 := []) rfl (b_iinc rfl (by rw [← e52]; exact ev_w_in (by omega) (by omega)) rfl) rfl ?_
                    refine w_go (t1 := 74) rfl rfl ?_
                    exact ih33 (900 - (v51)).toNat (by omega) m36 (v51) I37 F38 (by omega) k39 k40 k41 k42    rfl
            exact hL74 _ m28 (i6) I29 F31 (by omega) (W30.slot (W19.slot k11 (by decide)) (by decide)) (W30.slot (W19.slot e14 (by decide)) (by decide)) (W30.slot W19.at (by decide)) W30.at    rfl
      · have b25 : -1 ≤ v21 ∧ v21 ≤ -1 := by omega
        refine w_t (np := 55) (l2 := [some (eR a0), some (eI (i6)), some (eI (v21))]) (s2 := [eR a0]) rfl (s_an rfl (pos_g I18 gA0 (by decide))) rfl ?_
        refine w_t (np := 56) (l2 := [some (eR a0), some (eI (i6)), some (eI (v21))]) (s2 := [eI (0), eR a0]) rfl rfl rfl ?_
        refine j_pf (np := 59) (w := 0) rfl rfl I18 gA0 (by decide) (n := 11) rfl rfl (hO_i (lo := -2147483648) (hi := 2147483647) rfl (by decide)) ?_
        intro m25 I26 W27
        have F28 : Fr l_67 0 0 g μ m25 := F20.w W27 gA0 rfl
        refine w_go (t1 := 139) rfl rfl ?_
        refine w_t (np := 140) (l2 := [some (eR a0), some (eI (i6)), some (eI (v21))]) (s2 := [eR a0]) rfl (s_an rfl (pos_g I26 gA0 (by decide))) rfl ?_
        refine w_t (np := 141) (l2 := [some (eR a0), some (eI (i6)), some (eI (v21))]) (s2 := [eI (i6), eR a0]) rfl rfl rfl ?_
        refine j_pf (np := 144) (w := i6) rfl rfl I26 gA0 (by decide) (n := 11) rfl rfl (hO_i (lo := 0) (hi := 900) rfl (by omega)) ?_
        intro m29 I30 W31
        have F32 : Fr l_67 0 0 g μ m29 := F28.w W31 gA0 rfl
        exact v_rv rfl rfl (K m29 I30 F32)
    · have b17 : 0 ≤ i6 ∧ i6 ≤ 899 := by omega
      have b18 : 1 ≤ v13 ∧ v13 ≤ 900 := by omega
      refine w_t (np := 14) (l2 := [some (eR a0), some (eI (i6)), none]) (s2 := [eR a0]) rfl (s_an rfl (pos_g I9 gA0 (by decide))) rfl ?_
      refine w_t (np := 15) (l2 := [some (eR a0), some (eI (i6)), none]) (s2 := [eI (i6), eR a0]) rfl rfl rfl ?_
      refine w_cw (np := 18) (as := [eI (i6)]) (l2 := [some (eR a0), some (eI (i6))]) (rest := []) rfl rfl rfl (Nat.ble_eq.mp rfl) rfl rfl rfl (I9.kd gA0 (by decide) (n := 11) rfl) rfl ?_
      refine s_64 (a1 := i6) I9 gA0 (by omega) e14 ?_
      intro v17 b18 h19
      show ex_q (dt_fg L ρ) rc (d + 2, (67, 18, [some (eR a0), some (eI (i6)), none], [eI (v17)]), f :: F, m8)
      refine w_t (np := 20) (l2 := [some (eR a0), some (eI (i6)), none]) (s2 := [eI (10), eI (v17)]) rfl rfl rfl ?_
      refine b_ceq (t1 := 33) (t2 := 23) rfl rfl rfl (ev_w_in (by omega) (by omega)) rfl (fun g20 => ?_) (fun g20 => ?_)
      · have b21 : 10 ≤ v17 ∧ v17 ≤ 10 := by omega
        obtain ⟨v21, e22⟩ : ∃ zz : Int, zz = (i6) + (1) := ⟨_, rfl⟩
        have b23 : 1 ≤ v21 ∧ v21 ≤ 900 := by omega
        refine w_t (np := 36) (l2 := [some (eR a0), some (eI (v21)), none]) (s2 := []) rfl (b_iinc rfl (by rw [← e22]; exact ev_w_in (by omega) (by omega)) rfl) rfl ?_
        refine w_go (t1 := 5) rfl rfl ?_
        exact ih5 (900 - (v21)).toNat (by omega) m8 (v21) I9 F10 (by omega) k11    rfl
      · refine w_t (np := 24) (l2 := [some (eR a0), some (eI (i6)), none]) (s2 := [eR a0]) rfl (s_an rfl (pos_g I9 gA0 (by decide))) rfl ?_
        refine w_t (np := 25) (l2 := [some (eR a0), some (eI (i6)), none]) (s2 := [eI (i6), eR a0]) rfl rfl rfl ?_
        refine w_cw (np := 28) (as := [eI (i6)]) (l2 := [some (eR a0), some (eI (i6))]) (rest := []) rfl rfl rfl (Nat.ble_eq.mp rfl) rfl rfl rfl (I9.kd gA0 (by decide) (n := 11) rfl) rfl ?_
        refine s_64 (a1 := i6) I9 gA0 (by omega) e14 ?_
        intro v21 b22 h23
        show ex_q (dt_fg L ρ) rc (d + 2, (67, 28, [some (eR a0), some (eI (i6)), none], [eI (v21)]), f :: F, m8)
        refine w_t (np := 30) (l2 := [some (eR a0), some (eI (i6)), none]) (s2 := [eI (32), eI (v21)]) rfl rfl rfl ?_
        refine b_cne (t1 := 39) (t2 := 33) rfl rfl rfl (ev_w_in (by omega) (by omega)) rfl (fun g24 => ?_) (fun g24 => ?_)
        · refine w_t (np := 40) (l2 := [some (eR a0), some (eI (i6)), none]) (s2 := [eR a0]) rfl (s_an rfl (pos_g I9 gA0 (by decide))) rfl ?_
          refine w_t (np := 41) (l2 := [some (eR a0), some (eI (i6)), none]) (s2 := [eI (i6), eR a0]) rfl rfl rfl ?_
          refine j_pf (np := 44) (w := i6) rfl rfl I9 gA0 (by decide) (n := 11) rfl rfl (hO_i (lo := 0) (hi := 900) rfl (by omega)) ?_
          intro m25 I26 W27
          have F28 : Fr l_67 0 0 g μ m25 := F10.w W27 gA0 rfl
          refine w_t (np := 45) (l2 := [some (eR a0), some (eI (i6)), none]) (s2 := [eR a0]) rfl (s_an rfl (pos_g I26 gA0 (by decide))) rfl ?_
          refine w_t (np := 46) (l2 := [some (eR a0), some (eI (i6)), none]) (s2 := [eI (i6), eR a0]) rfl rfl rfl ?_
          refine w_cw (np := 49) (as := [eI (i6)]) (l2 := [some (eR a0), some (eI (i6))]) (rest := []) rfl rfl rfl (Nat.ble_eq.mp rfl) rfl rfl rfl (I26.kd gA0 (by decide) (n := 11) rfl) rfl ?_
          refine s_64 (a1 := i6) I26 gA0 (by omega) (W27.slot e14 (by decide)) ?_
          intro v29 b30 h31
          show ex_q (dt_fg L ρ) rc (d + 2, (67, 49, [some (eR a0), some (eI (i6)), none], [eI (v29)]), f :: F, m25)
          refine w_t (np := 50) (l2 := [some (eR a0), some (eI (i6)), some (eI (v29))]) (s2 := []) rfl rfl rfl ?_
          refine w_t (np := 51) (l2 := [some (eR a0), some (eI (i6)), some (eI (v29))]) (s2 := [eI (v29)]) rfl rfl rfl ?_
          refine b_ige (t1 := 62) (t2 := 54) rfl rfl rfl (ev_w_in (by omega) (by omega)) (fun g32 => ?_) (fun g32 => ?_)
          · have b33 : 0 ≤ v29 ∧ v29 ≤ 255 := by omega
            refine w_t (np := 63) (l2 := [some (eR a0), some (eI (i6)), some (eI (v29))]) (s2 := [eI (v29)]) rfl rfl rfl ?_
            refine w_cu (np := 66) (as := [eI (v29)]) (l2 := [some (eI (v29))]) (rest := []) rfl rfl rfl (Nat.ble_eq.mp rfl) rfl rfl rfl rfl ?_
            refine w_t (np := 1) (l2 := [some (eI (v29))]) (s2 := [eI (v29)]) rfl rfl rfl ?_
            refine w_t (np := 3) (l2 := [some (eI (v29))]) (s2 := [eI (97), eI (v29)]) rfl rfl rfl ?_
            refine b_clt (t1 := 16) (t2 := 6) rfl rfl rfl (ev_w_in (by omega) (by omega)) rfl (fun g33 => ?_) (fun g33 => ?_)
            · have b34 : 0 ≤ v29 ∧ v29 ≤ 96 := by omega
              refine w_t (np := 17) (l2 := [some (eI (v29))]) (s2 := [eI (0)]) rfl rfl rfl ?_
              refine b_rz rfl rfl (Or.inl rfl) ?_
              show ex_q (dt_fg L ρ) rc (d + 2, (67, 66, [some (eR a0), some (eI (i6)), some (eI (v29))], [eI (0)]), f :: F, m25)
              refine b_ieq (t1 := 99) (t2 := 69) rfl rfl rfl rfl (fun g34 => ?_) (fun g34 => absurd g34 (by decide))
              refine w_t (np := 100) (l2 := [some (eR a0), some (eI (i6)), some (eI (v29))]) (s2 := [eI (v29)]) rfl rfl rfl ?_
              refine w_cu (np := 103) (as := [eI (v29)]) (l2 := [some (eI (v29))]) (rest := []) rfl rfl rfl (Nat.ble_eq.mp rfl) rfl rfl rfl rfl ?_
              refine w_t (np := 1) (l2 := [some (eI (v29))]) (s2 := [eI (v29)]) rfl rfl rfl ?_
              refine w_t (np := 3) (l2 := [some (eI (v29))]) (s2 := [eI (48), eI (v29)]) rfl rfl rfl ?_
              refine b_clt (t1 := 16) (t2 := 6) rfl rfl rfl (ev_w_in (by omega) (by omega)) rfl (fun g35 => ?_) (fun g35 => ?_)
              · have b36 : 0 ≤ v29 ∧ v29 ≤ 47 := by omega
                refine w_t (np := 17) (l2 := [some (eI (v29))]) (s2 := [eI (0)]) rfl rfl rfl ?_
                refine b_rz rfl rfl (Or.inl rfl) ?_
                show ex_q (dt_fg L ρ) rc (d + 2, (67, 103, [some (eR a0), some (eI (i6)), some (eI (v29))], [eI (0)]), f :: F, m25)
                refine b_ieq (t1 := 115) (t2 := 106) rfl rfl rfl rfl (fun g36 => ?_) (fun g36 => absurd g36 (by decide))
                refine w_t (np := 116) (l2 := [some (eR a0), some (eI (i6)), some (eI (v29))]) (s2 := [eR a0]) rfl (s_an rfl (pos_g I26 gA0 (by decide))) rfl ?_
                refine w_t (np := 117) (l2 := [some (eR a0), some (eI (i6)), some (eI (v29))]) (s2 := [eI (v29), eR a0]) rfl rfl rfl ?_
                refine w_t (np := 119) (l2 := [some (eR a0), some (eI (i6)), some (eI (v29))]) (s2 := [eI (45), eI (v29), eR a0]) rfl rfl rfl ?_
                refine b_ceq (t1 := 128) (t2 := 122) rfl rfl rfl (ev_w_in (by omega) (by omega)) rfl (fun g37 => ?_) (fun g37 => ?_)
                · have b38 : 45 ≤ v29 ∧ v29 ≤ 45 := by omega
                  refine w_t (np := 129) (l2 := [some (eR a0), some (eI (i6)), some (eI (v29))]) (s2 := [eI (3), eR a0]) rfl rfl rfl ?_
                  refine w_go (t1 := 133) rfl rfl ?_
                  refine j_pf (np := 136) (w := 3) rfl rfl I26 gA0 (by decide) (n := 11) rfl rfl (hO_i (lo := -2147483648) (hi := 2147483647) rfl (by decide)) ?_
                  intro m38 I39 W40
                  have F41 : Fr l_67 0 0 g μ m38 := F28.w W40 gA0 rfl
                  obtain ⟨v42, e43⟩ : ∃ zz : Int, zz = (i6) + (1) := ⟨_, rfl⟩
                  have b44 : 1 ≤ v42 ∧ v42 ≤ 900 := by omega
                  refine w_t (np := 139) (l2 := [some (eR a0), some (eI (v42)), some (eI (v29))]) (s2 := []) rfl (b_iinc rfl (by rw [← e43]; exact ev_w_in (by omega) (by omega)) rfl) rfl ?_
                  refine w_t (np := 140) (l2 := [some (eR a0), some (eI (v42)), some (eI (v29))]) (s2 := [eR a0]) rfl (s_an rfl (pos_g I39 gA0 (by decide))) rfl ?_
                  refine w_t (np := 141) (l2 := [some (eR a0), some (eI (v42)), some (eI (v29))]) (s2 := [eI (v42), eR a0]) rfl rfl rfl ?_
                  refine j_pf (np := 144) (w := v42) rfl rfl I39 gA0 (by decide) (n := 11) rfl rfl (hO_i (lo := 0) (hi := 900) rfl (by omega)) ?_
                  intro m45 I46 W47
                  have F48 : Fr l_67 0 0 g μ m45 := F41.w W47 gA0 rfl
                  exact v_rv rfl rfl (K m45 I46 F48)
                · refine w_t (np := 123) (l2 := [some (eR a0), some (eI (i6)), some (eI (v29))]) (s2 := [eI (v29), eR a0]) rfl rfl rfl ?_
                  refine w_t (np := 125) (l2 := [some (eR a0), some (eI (i6)), some (eI (v29))]) (s2 := [eI (59), eI (v29), eR a0]) rfl rfl rfl ?_
                  refine b_cne (t1 := 132) (t2 := 128) rfl rfl rfl (ev_w_in (by omega) (by omega)) rfl (fun g38 => ?_) (fun g38 => False.elim (by omega))
                  refine w_t (np := 133) (l2 := [some (eR a0), some (eI (i6)), some (eI (v29))]) (s2 := [eI (4), eR a0]) rfl rfl rfl ?_
                  refine j_pf (np := 136) (w := 4) rfl rfl I26 gA0 (by decide) (n := 11) rfl rfl (hO_i (lo := -2147483648) (hi := 2147483647) rfl (by decide)) ?_
                  intro m39 I40 W41
                  have F42 : Fr l_67 0 0 g μ m39 := F28.w W41 gA0 rfl
                  obtain ⟨v43, e44⟩ : ∃ zz : Int, zz = (i6) + (1) := ⟨_, rfl⟩
                  have b45 : 1 ≤ v43 ∧ v43 ≤ 900 := by omega
                  refine w_t (np := 139) (l2 := [some (eR a0), some (eI (v43)), some (eI (v29))]) (s2 := []) rfl (b_iinc rfl (by rw [← e44]; exact ev_w_in (by omega) (by omega)) rfl) rfl ?_
                  refine w_t (np := 140) (l2 := [some (eR a0), some (eI (v43)), some (eI (v29))]) (s2 := [eR a0]) rfl (s_an rfl (pos_g I40 gA0 (by decide))) rfl ?_
                  refine w_t (np := 141) (l2 := [some (eR a0), some (eI (v43)), some (eI (v29))]) (s2 := [eI (v43), eR a0]) rfl rfl rfl ?_
                  refine j_pf (np := 144) (w := v43) rfl rfl I40 gA0 (by decide) (n := 11) rfl rfl (hO_i (lo := 0) (hi := 900) rfl (by omega)) ?_
                  intro m46 I47 W48
                  have F49 : Fr l_67 0 0 g μ m46 := F42.w W48 gA0 rfl
                  exact v_rv rfl rfl (K m46 I47 F49)
              · have b36 : 48 ≤ v29 ∧ v29 ≤ 96 := by omega
                refine w_t (np := 7) (l2 := [some (eI (v29))]) (s2 := [eI (v29)]) rfl rfl rfl ?_
                refine w_t (np := 9) (l2 := [some (eI (v29))]) (s2 := [eI (57), eI (v29)]) rfl rfl rfl ?_
                refine b_cgt (t1 := 16) (t2 := 12) rfl rfl rfl (ev_w_in (by omega) (by omega)) rfl (fun g36 => ?_) (fun g36 => ?_)
                · have b37 : 58 ≤ v29 ∧ v29 ≤ 96 := by omega
                  refine w_t (np := 17) (l2 := [some (eI (v29))]) (s2 := [eI (0)]) rfl rfl rfl ?_
                  refine b_rz rfl rfl (Or.inl rfl) ?_
                  show ex_q (dt_fg L ρ) rc (d + 2, (67, 103, [some (eR a0), some (eI (i6)), some (eI (v29))], [eI (0)]), f :: F, m25)
                  refine b_ieq (t1 := 115) (t2 := 106) rfl rfl rfl rfl (fun g37 => ?_) (fun g37 => absurd g37 (by decide))
                  refine w_t (np := 116) (l2 := [some (eR a0), some (eI (i6)), some (eI (v29))]) (s2 := [eR a0]) rfl (s_an rfl (pos_g I26 gA0 (by decide))) rfl ?_
                  refine w_t (np := 117) (l2 := [some (eR a0), some (eI (i6)), some (eI (v29))]) (s2 := [eI (v29), eR a0]) rfl rfl rfl ?_
                  refine w_t (np := 119) (l2 := [some (eR a0), some (eI (i6)), some (eI (v29))]) (s2 := [eI (45), eI (v29), eR a0]) rfl rfl rfl ?_
                  refine b_ceq (t1 := 128) (t2 := 122) rfl rfl rfl (ev_w_in (by omega) (by omega)) rfl (fun g38 => False.elim (by omega)) (fun g38 => ?_)
                  refine w_t (np := 123) (l2 := [some (eR a0), some (eI (i6)), some (eI (v29))]) (s2 := [eI (v29), eR a0]) rfl rfl rfl ?_
                  refine w_t (np := 125) (l2 := [some (eR a0), some (eI (i6)), some (eI (v29))]) (s2 := [eI (59), eI (v29), eR a0]) rfl rfl rfl ?_
                  refine b_cne (t1 := 132) (t2 := 128) rfl rfl rfl (ev_w_in (by omega) (by omega)) rfl (fun g39 => ?_) (fun g39 => ?_)
                  · refine w_t (np := 133) (l2 := [some (eR a0), some (eI (i6)), some (eI (v29))]) (s2 := [eI (4), eR a0]) rfl rfl rfl ?_
                    refine j_pf (np := 136) (w := 4) rfl rfl I26 gA0 (by decide) (n := 11) rfl rfl (hO_i (lo := -2147483648) (hi := 2147483647) rfl (by decide)) ?_
                    intro m40 I41 W42
                    have F43 : Fr l_67 0 0 g μ m40 := F28.w W42 gA0 rfl
                    obtain ⟨v44, e45⟩ : ∃ zz : Int, zz = (i6) + (1) := ⟨_, rfl⟩
                    have b46 : 1 ≤ v44 ∧ v44 ≤ 900 := by omega
                    refine w_t (np := 139) (l2 := [some (eR a0), some (eI (v44)), some (eI (v29))]) (s2 := []) rfl (b_iinc rfl (by rw [← e45]; exact ev_w_in (by omega) (by omega)) rfl) rfl ?_
                    refine w_t (np := 140) (l2 := [some (eR a0), some (eI (v44)), some (eI (v29))]) (s2 := [eR a0]) rfl (s_an rfl (pos_g I41 gA0 (by decide))) rfl ?_
                    refine w_t (np := 141) (l2 := [some (eR a0), some (eI (v44)), some (eI (v29))]) (s2 := [eI (v44), eR a0]) rfl rfl rfl ?_
                    refine j_pf (np := 144) (w := v44) rfl rfl I41 gA0 (by decide) (n := 11) rfl rfl (hO_i (lo := 0) (hi := 900) rfl (by omega)) ?_
                    intro m47 I48 W49
                    have F50 : Fr l_67 0 0 g μ m47 := F43.w W49 gA0 rfl
                    exact v_rv rfl rfl (K m47 I48 F50)
                  · have b40 : 59 ≤ v29 ∧ v29 ≤ 59 := by omega
                    refine w_t (np := 129) (l2 := [some (eR a0), some (eI (i6)), some (eI (v29))]) (s2 := [eI (3), eR a0]) rfl rfl rfl ?_
                    refine w_go (t1 := 133) rfl rfl ?_
                    refine j_pf (np := 136) (w := 3) rfl rfl I26 gA0 (by decide) (n := 11) rfl rfl (hO_i (lo := -2147483648) (hi := 2147483647) rfl (by decide)) ?_
                    intro m40 I41 W42
                    have F43 : Fr l_67 0 0 g μ m40 := F28.w W42 gA0 rfl
                    obtain ⟨v44, e45⟩ : ∃ zz : Int, zz = (i6) + (1) := ⟨_, rfl⟩
                    have b46 : 1 ≤ v44 ∧ v44 ≤ 900 := by omega
                    refine w_t (np := 139) (l2 := [some (eR a0), some (eI (v44)), some (eI (v29))]) (s2 := []) rfl (b_iinc rfl (by rw [← e45]; exact ev_w_in (by omega) (by omega)) rfl) rfl ?_
                    refine w_t (np := 140) (l2 := [some (eR a0), some (eI (v44)), some (eI (v29))]) (s2 := [eR a0]) rfl (s_an rfl (pos_g I41 gA0 (by decide))) rfl ?_
                    refine w_t (np := 141) (l2 := [some (eR a0), some (eI (v44)), some (eI (v29))]) (s2 := [eI (v44), eR a0]) rfl rfl rfl ?_
                    refine j_pf (np := 144) (w := v44) rfl rfl I41 gA0 (by decide) (n := 11) rfl rfl (hO_i (lo := 0) (hi := 900) rfl (by omega)) ?_
                    intro m47 I48 W49
                    have F50 : Fr l_67 0 0 g μ m47 := F43.w W49 gA0 rfl
                    exact v_rv rfl rfl (K m47 I48 F50)
                · have b37 : 48 ≤ v29 ∧ v29 ≤ 57 := by omega
                  refine w_t (np := 13) (l2 := [some (eI (v29))]) (s2 := [eI (1)]) rfl rfl rfl ?_
                  refine w_go (t1 := 17) rfl rfl ?_
                  refine b_rz rfl rfl (Or.inr rfl) ?_
                  show ex_q (dt_fg L ρ) rc (d + 2, (67, 103, [some (eR a0), some (eI (i6)), some (eI (v29))], [eI (1)]), f :: F, m25)
                  refine b_ieq (t1 := 115) (t2 := 106) rfl rfl rfl rfl (fun g37 => absurd g37 (by decide)) (fun g37 => ?_)
                  refine w_t (np := 107) (l2 := [some (eR a0), some (eI (i6)), some (eI (v29))]) (s2 := [eR a0]) rfl (s_an rfl (pos_g I26 gA0 (by decide))) rfl ?_
                  refine w_t (np := 108) (l2 := [some (eR a0), some (eI (i6)), some (eI (v29))]) (s2 := [eI (i6), eR a0]) rfl rfl rfl ?_
                  refine w_cw (np := 111) (as := [eI (i6)]) (l2 := [some (eR a0), some (eI (i6)), none]) (rest := []) rfl rfl rfl (Nat.ble_eq.mp rfl) rfl rfl rfl (I26.kd gA0 (by decide) (n := 11) rfl) rfl ?_
                  refine s_68 (a1 := i6) I26 gA0 (by omega) ?_
                  intro m38 v41 I39 F40 b42
                  have F43 : Fr l_67 0 0 g μ m38 := F28.t F40 rfl
                  show ex_q (dt_fg L ρ) rc (d + 2, (67, 111, [some (eR a0), some (eI (i6)), some (eI (v29))], [eI (v41)]), f :: F, m38)
                  refine w_t (np := 112) (l2 := [some (eR a0), some (eI (v41)), some (eI (v29))]) (s2 := []) rfl rfl rfl ?_
                  refine w_go (t1 := 139) rfl rfl ?_
                  refine w_t (np := 140) (l2 := [some (eR a0), some (eI (v41)), some (eI (v29))]) (s2 := [eR a0]) rfl (s_an rfl (pos_g I39 gA0 (by decide))) rfl ?_
                  refine w_t (np := 141) (l2 := [some (eR a0), some (eI (v41)), some (eI (v29))]) (s2 := [eI (v41), eR a0]) rfl rfl rfl ?_
                  refine j_pf (np := 144) (w := v41) rfl rfl I39 gA0 (by decide) (n := 11) rfl rfl (hO_i (lo := 0) (hi := 900) rfl (by omega)) ?_
                  intro m44 I45 W46
                  have F47 : Fr l_67 0 0 g μ m44 := F43.w W46 gA0 rfl
                  exact v_rv rfl rfl (K m44 I45 F47)
            · have b34 : 97 ≤ v29 ∧ v29 ≤ 255 := by omega
              refine w_t (np := 7) (l2 := [some (eI (v29))]) (s2 := [eI (v29)]) rfl rfl rfl ?_
              refine w_t (np := 9) (l2 := [some (eI (v29))]) (s2 := [eI (122), eI (v29)]) rfl rfl rfl ?_
              refine b_cgt (t1 := 16) (t2 := 12) rfl rfl rfl (ev_w_in (by omega) (by omega)) rfl (fun g34 => ?_) (fun g34 => ?_)
              · have b35 : 123 ≤ v29 ∧ v29 ≤ 255 := by omega
                refine w_t (np := 17) (l2 := [some (eI (v29))]) (s2 := [eI (0)]) rfl rfl rfl ?_
                refine b_rz rfl rfl (Or.inl rfl) ?_
                show ex_q (dt_fg L ρ) rc (d + 2, (67, 66, [some (eR a0), some (eI (i6)), some (eI (v29))], [eI (0)]), f :: F, m25)
                refine b_ieq (t1 := 99) (t2 := 69) rfl rfl rfl rfl (fun g35 => ?_) (fun g35 => absurd g35 (by decide))
                refine w_t (np := 100) (l2 := [some (eR a0), some (eI (i6)), some (eI (v29))]) (s2 := [eI (v29)]) rfl rfl rfl ?_
                refine w_cu (np := 103) (as := [eI (v29)]) (l2 := [some (eI (v29))]) (rest := []) rfl rfl rfl (Nat.ble_eq.mp rfl) rfl rfl rfl rfl ?_
                refine w_t (np := 1) (l2 := [some (eI (v29))]) (s2 := [eI (v29)]) rfl rfl rfl ?_
                refine w_t (np := 3) (l2 := [some (eI (v29))]) (s2 := [eI (48), eI (v29)]) rfl rfl rfl ?_
                refine b_clt (t1 := 16) (t2 := 6) rfl rfl rfl (ev_w_in (by omega) (by omega)) rfl (fun g36 => False.elim (by omega)) (fun g36 => ?_)
                refine w_t (np := 7) (l2 := [some (eI (v29))]) (s2 := [eI (v29)]) rfl rfl rfl ?_
                refine w_t (np := 9) (l2 := [some (eI (v29))]) (s2 := [eI (57), eI (v29)]) rfl rfl rfl ?_
                refine b_cgt (t1 := 16) (t2 := 12) rfl rfl rfl (ev_w_in (by omega) (by omega)) rfl (fun g37 => ?_) (fun g37 => False.elim (by omega))
                refine w_t (np := 17) (l2 := [some (eI (v29))]) (s2 := [eI (0)]) rfl rfl rfl ?_
                refine b_rz rfl rfl (Or.inl rfl) ?_
                show ex_q (dt_fg L ρ) rc (d + 2, (67, 103, [some (eR a0), some (eI (i6)), some (eI (v29))], [eI (0)]), f :: F, m25)
                refine b_ieq (t1 := 115) (t2 := 106) rfl rfl rfl rfl (fun g38 => ?_) (fun g38 => absurd g38 (by decide))
                refine w_t (np := 116) (l2 := [some (eR a0), some (eI (i6)), some (eI (v29))]) (s2 := [eR a0]) rfl (s_an rfl (pos_g I26 gA0 (by decide))) rfl ?_
                refine w_t (np := 117) (l2 := [some (eR a0), some (eI (i6)), some (eI (v29))]) (s2 := [eI (v29), eR a0]) rfl rfl rfl ?_
                refine w_t (np := 119) (l2 := [some (eR a0), some (eI (i6)), some (eI (v29))]) (s2 := [eI (45), eI (v29), eR a0]) rfl rfl rfl ?_
                refine b_ceq (t1 := 128) (t2 := 122) rfl rfl rfl (ev_w_in (by omega) (by omega)) rfl (fun g39 => False.elim (by omega)) (fun g39 => ?_)
                refine w_t (np := 123) (l2 := [some (eR a0), some (eI (i6)), some (eI (v29))]) (s2 := [eI (v29), eR a0]) rfl rfl rfl ?_
                refine w_t (np := 125) (l2 := [some (eR a0), some (eI (i6)), some (eI (v29))]) (s2 := [eI (59), eI (v29), eR a0]) rfl rfl rfl ?_
                refine b_cne (t1 := 132) (t2 := 128) rfl rfl rfl (ev_w_in (by omega) (by omega)) rfl (fun g40 => ?_) (fun g40 => False.elim (by omega))
                refine w_t (np := 133) (l2 := [some (eR a0), some (eI (i6)), some (eI (v29))]) (s2 := [eI (4), eR a0]) rfl rfl rfl ?_
                refine j_pf (np := 136) (w := 4) rfl rfl I26 gA0 (by decide) (n := 11) rfl rfl (hO_i (lo := -2147483648) (hi := 2147483647) rfl (by decide)) ?_
                intro m41 I42 W43
                have F44 : Fr l_67 0 0 g μ m41 := F28.w W43 gA0 rfl
                obtain ⟨v45, e46⟩ : ∃ zz : Int, zz = (i6) + (1) := ⟨_, rfl⟩
                have b47 : 1 ≤ v45 ∧ v45 ≤ 900 := by omega
                refine w_t (np := 139) (l2 := [some (eR a0), some (eI (v45)), some (eI (v29))]) (s2 := []) rfl (b_iinc rfl (by rw [← e46]; exact ev_w_in (by omega) (by omega)) rfl) rfl ?_
                refine w_t (np := 140) (l2 := [some (eR a0), some (eI (v45)), some (eI (v29))]) (s2 := [eR a0]) rfl (s_an rfl (pos_g I42 gA0 (by decide))) rfl ?_
                refine w_t (np := 141) (l2 := [some (eR a0), some (eI (v45)), some (eI (v29))]) (s2 := [eI (v45), eR a0]) rfl rfl rfl ?_
                refine j_pf (np := 144) (w := v45) rfl rfl I42 gA0 (by decide) (n := 11) rfl rfl (hO_i (lo := 0) (hi := 900) rfl (by omega)) ?_
                intro m48 I49 W50
                have F51 : Fr l_67 0 0 g μ m48 := F44.w W50 gA0 rfl
                exact v_rv rfl rfl (K m48 I49 F51)
              · have b35 : 97 ≤ v29 ∧ v29 ≤ 122 := by omega
                refine w_t (np := 13) (l2 := [some (eI (v29))]) (s2 := [eI (1)]) rfl rfl rfl ?_
                refine w_go (t1 := 17) rfl rfl ?_
                refine b_rz rfl rfl (Or.inr rfl) ?_
                show ex_q (dt_fg L ρ) rc (d + 2, (67, 66, [some (eR a0), some (eI (i6)), some (eI (v29))], [eI (1)]), f :: F, m25)
                refine b_ieq (t1 := 99) (t2 := 69) rfl rfl rfl rfl (fun g35 => absurd g35 (by decide)) (fun g35 => ?_)
                refine w_t (np := 70) (l2 := [some (eR a0), some (eI (i6)), some (eI (v29))]) (s2 := [eR a0]) rfl (s_an rfl (pos_g I26 gA0 (by decide))) rfl ?_
                refine w_t (np := 71) (l2 := [some (eR a0), some (eI (i6)), some (eI (v29))]) (s2 := [eI (1), eR a0]) rfl rfl rfl ?_
                refine j_pf (np := 74) (w := 1) rfl rfl I26 gA0 (by decide) (n := 11) rfl rfl (hO_i (lo := -2147483648) (hi := 2147483647) rfl (by decide)) ?_
                intro m36 I37 W38
                have F39 : Fr l_67 0 0 g μ m36 := F28.w W38 gA0 rfl
                have hL74 : ∀ (n40 : Nat) (m44 : eM) (i42 : Int), SI g m44 → Fr l_67 0 0 g μ m44 → (0 ≤ i42 ∧ i42 ≤ 900) → m44.1 a0 6 = v1 → m44.1 a0 3 = v13 → m44.1 a0 5 = i6 → m44.1 a0 4 = 1 → n40 = (900 - i42).toNat → ex_q (dt_fg L ρ) rc (d + 2, (67, 74, [some (eR a0), some (eI (i42)), some (eI (v29))], []), f :: F, m44) := by
                  intro n40
                  induction n40 using Nat.strongRecOn with
                  | _ n40 ih41 =>
                  intro m44 i42 I45 F46 b43 k47 k48 k49 k50 hn51
                  refine w_t (np := 75) (l2 := [some (eR a0), some (eI (i42)), some (eI (v29))]) (s2 := [eI (i42)]) rfl rfl rfl ?_
                  refine w_t (np := 76) (l2 := [some (eR a0), some (eI (i42)), some (eI (v29))]) (s2 := [eR a0, eI (i42)]) rfl (s_an rfl (pos_g I45 gA0 (by decide))) rfl ?_
                  refine w_gf (np := 79) (v := eI (v13)) rfl rfl (I45.kd gA0 (by decide) (n := 11) rfl) (by rw [k48]; rfl) ?_
                  refine b_cge (t1 := 139) (t2 := 82) rfl rfl rfl (ev_w_in (by omega) (by omega)) (ev_w_in (by omega) (by omega)) (fun g52 => ?_) (fun g52 => ?_)
                  · have b53 : 1 ≤ i42 ∧ i42 ≤ 900 := by omega
                    refine w_t (np := 140) (l2 := [some (eR a0), some (eI (i42)), some (eI (v29))]) (s2 := [eR a0]) rfl (s_an rfl (pos_g I45 gA0 (by decide))) rfl ?_
                    refine w_t (np := 141) (l2 := [some (eR a0), some (eI (i42)), some (eI (v29))]) (s2 := [eI (i42), eR a0]) rfl rfl rfl ?_
                    refine j_pf (np := 144) (w := i42) rfl rfl I45 gA0 (by decide) (n := 11) rfl rfl (hO_i (lo := 0) (hi := 900) rfl (by omega)) ?_
                    intro m53 I54 W55
                    have F56 : Fr l_67 0 0 g μ m53 := F46.w W55 gA0 rfl
                    exact v_rv rfl rfl (K m53 I54 F56)
                  · have b53 : 0 ≤ i42 ∧ i42 ≤ 899 := by omega
                    refine w_t (np := 83) (l2 := [some (eR a0), some (eI (i42)), some (eI (v29))]) (s2 := [eR a0]) rfl (s_an rfl (pos_g I45 gA0 (by decide))) rfl ?_
                    refine w_t (np := 84) (l2 := [some (eR a0), some (eI (i42)), some (eI (v29))]) (s2 := [eI (i42), eR a0]) rfl rfl rfl ?_
                    refine w_cw (np := 87) (as := [eI (i42)]) (l2 := [some (eR a0), some (eI (i42))]) (rest := []) rfl rfl rfl (Nat.ble_eq.mp rfl) rfl rfl rfl (I45.kd gA0 (by decide) (n := 11) rfl) rfl ?_
                    refine s_64 (a1 := i42) I45 gA0 (by omega) k48 ?_
                    intro v53 b54 h55
                    show ex_q (dt_fg L ρ) rc (d + 2, (67, 87, [some (eR a0), some (eI (i42)), some (eI (v29))], [eI (v53)]), f :: F, m44)
                    refine w_cu (np := 90) (as := [eI (v53)]) (l2 := [some (eI (v53))]) (rest := []) rfl rfl rfl (Nat.ble_eq.mp rfl) rfl rfl rfl rfl ?_
                    refine w_t (np := 1) (l2 := [some (eI (v53))]) (s2 := [eI (v53)]) rfl rfl rfl ?_
                    refine w_t (np := 3) (l2 := [some (eI (v53))]) (s2 := [eI (97), eI (v53)]) rfl rfl rfl ?_
                    refine b_clt (t1 := 16) (t2 := 6) rfl rfl rfl (ev_w_in (by omega) (by omega)) rfl (fun g56 => ?_) (fun g56 => ?_)
                    · have b57 : -1 ≤ v53 ∧ v53 ≤ 96 := by omega
                      refine w_t (np := 17) (l2 := [some (eI (v53))]) (s2 := [eI (0)]) rfl rfl rfl ?_
                      refine b_rz rfl rfl (Or.inl rfl) ?_
                      show ex_q (dt_fg L ρ) rc (d + 2, (67, 90, [some (eR a0), some (eI (i42)), some (eI (v29))], [eI (0)]), f :: F, m44)
                      refine b_ieq (t1 := 139) (t2 := 93) rfl rfl rfl rfl (fun g57 => ?_) (fun g57 => absurd g57 (by decide))
                      refine w_t (np := 140) (l2 := [some (eR a0), some (eI (i42)), some (eI (v29))]) (s2 := [eR a0]) rfl (s_an rfl (pos_g I45 gA0 (by decide))) rfl ?_
                      refine w_t (np := 141) (l2 := [some (eR a0), some (eI (i42)), some (eI (v29))]) (s2 := [eI (i42), eR a0]) rfl rfl rfl ?_
                      refine j_pf (np := 144) (w := i42) rfl rfl I45 gA0 (by decide) (n := 11) rfl rfl (hO_i (lo := 0) (hi := 900) rfl (by omega)) ?_
                      intro m58 I59 W60
                      have F61 : Fr l_67 0 0 g μ m58 := F46.w W60 gA0 rfl
                      exact v_rv rfl rfl (K m58 I59 F61)
                    · have b57 : 97 ≤ v53 ∧ v53 ≤ 255 := by omega
                      refine w_t (np := 7) (l2 := [some (eI (v53))]) (s2 := [eI (v53)]) rfl rfl rfl ?_
                      refine w_t (np := 9) (l2 := [some (eI (v53))]) (s2 := [eI (122), eI (v53)]) rfl rfl rfl ?_
                      refine b_cgt (t1 := 16) (t2 := 12) rfl rfl rfl (ev_w_in (by omega) (by omega)) rfl (fun g57 => ?_) (fun g57 => ?_)
                      · have b58 : 123 ≤ v53 ∧ v53 ≤ 255 := by omega
                        refine w_t (np := 17) (l2 := [some (eI (v53))]) (s2 := [eI (0)]) rfl rfl rfl ?_
                        refine b_rz rfl rfl (Or.inl rfl) ?_
                        show ex_q (dt_fg L ρ) rc (d + 2, (67, 90, [some (eR a0), some (eI (i42)), some (eI (v29))], [eI (0)]), f :: F, m44)
                        refine b_ieq (t1 := 139) (t2 := 93) rfl rfl rfl rfl (fun g58 => ?_) (fun g58 => absurd g58 (by decide))
                        refine w_t (np := 140) (l2 := [some (eR a0), some (eI (i42)), some (eI (v29))]) (s2 := [eR a0]) rfl (s_an rfl (pos_g I45 gA0 (by decide))) rfl ?_
                        refine w_t (np := 141) (l2 := [some (eR a0), some (eI (i42)), some (eI (v29))]) (s2 := [eI (i42), eR a0]) rfl rfl rfl ?_
                        refine j_pf (np := 144) (w := i42) rfl rfl I45 gA0 (by decide) (n := 11) rfl rfl (hO_i (lo := 0) (hi := 900) rfl (by omega)) ?_
                        intro m59 I60 W61
                        have F62 : Fr l_67 0 0 g μ m59 := F46.w W61 gA0 rfl
                        exact v_rv rfl rfl (K m59 I60 F62)
                      · have b58 : 97 ≤ v53 ∧ v53 ≤ 122 := by omega
                        refine w_t (np := 13) (l2 := [some (eI (v53))]) (s2 := [eI (1)]) rfl rfl rfl ?_
                        refine w_go (t1 := 17) rfl rfl ?_
                        refine b_rz rfl rfl (Or.inr rfl) ?_
                        show ex_q (dt_fg L ρ) rc (d + 2, (67, 90, [some (eR a0), some (eI (i42)), some (eI (v29))], [eI (1)]), f :: F, m44)
                        refine b_ieq (t1 := 139) (t2 := 93) rfl rfl rfl rfl (fun g58 => absurd g58 (by decide)) (fun g58 => ?_)
                        obtain ⟨v59, e60⟩ : ∃ zz : Int, zz = (i42) + (1) := ⟨_, rfl⟩
                        have b61 : 1 ≤ v59 ∧ v59 ≤ 900 := by omega
                        refine w_t (np := 96) (l2 := [some (eR a0), some (eI (v59)), some (eI (v29))]) (s2 := []) rfl (b_iinc rfl (by rw [← e60]; exact ev_w_in (by omega) (by omega)) rfl) rfl ?_
                        refine w_go (t1 := 74) rfl rfl ?_
                        exact ih41 (900 - (v59)).toNat (by omega) m44 (v59) I45 F46 (by omega) k47 k48 k49 k50    rfl
                exact hL74 _ m36 (i6) I37 F39 (by omega) (W38.slot (W27.slot k11 (by decide)) (by decide)) (W38.slot (W27.slot e14 (by decide)) (by decide)) (W38.slot W27.at (by decide)) W38.at    rfl
          · have b33 : -1 ≤ v29 ∧ v29 ≤ -1 := by omega
            refine w_t (np := 55) (l2 := [some (eR a0), some (eI (i6)), some (eI (v29))]) (s2 := [eR a0]) rfl (s_an rfl (pos_g I26 gA0 (by decide))) rfl ?_
            refine w_t (np := 56) (l2 := [some (eR a0), some (eI (i6)), some (eI (v29))]) (s2 := [eI (0), eR a0]) rfl rfl rfl ?_
            refine j_pf (np := 59) (w := 0) rfl rfl I26 gA0 (by decide) (n := 11) rfl rfl (hO_i (lo := -2147483648) (hi := 2147483647) rfl (by decide)) ?_
            intro m33 I34 W35
            have F36 : Fr l_67 0 0 g μ m33 := F28.w W35 gA0 rfl
            refine w_go (t1 := 139) rfl rfl ?_
            refine w_t (np := 140) (l2 := [some (eR a0), some (eI (i6)), some (eI (v29))]) (s2 := [eR a0]) rfl (s_an rfl (pos_g I34 gA0 (by decide))) rfl ?_
            refine w_t (np := 141) (l2 := [some (eR a0), some (eI (i6)), some (eI (v29))]) (s2 := [eI (i6), eR a0]) rfl rfl rfl ?_
            refine j_pf (np := 144) (w := i6) rfl rfl I34 gA0 (by decide) (n := 11) rfl rfl (hO_i (lo := 0) (hi := 900) rfl (by omega)) ?_
            intro m37 I38 W39
            have F40 : Fr l_67 0 0 g μ m37 := F36.w W39 gA0 rfl
            exact v_rv rfl rfl (K m37 I38 F40)
        · have b25 : 32 ≤ v21 ∧ v21 ≤ 32 := by omega
          obtain ⟨v25, e26⟩ : ∃ zz : Int, zz = (i6) + (1) := ⟨_, rfl⟩
          have b27 : 1 ≤ v25 ∧ v25 ≤ 900 := by omega
          refine w_t (np := 36) (l2 := [some (eR a0), some (eI (v25)), none]) (s2 := []) rfl (b_iinc rfl (by rw [← e26]; exact ev_w_in (by omega) (by omega)) rfl) rfl ?_
          refine w_go (t1 := 5) rfl rfl ?_
          exact ih5 (900 - (v25)).toNat (by omega) m8 (v25) I9 F10 (by omega) k11    rfl
  exact hL5 _ μ (v1) hI F0 (by omega) e2    rfl
theorem s_83 {L : Nat} {ρ : Nat → Int} {rc : eQ} {d : Nat} {f : eFr} {F : List eFr} {μ : eM} {g : Nat → Nat} {a0 : Int} {a1 : Int} (hI : SI g μ) (bA0 : -2147483648 ≤ a0 ∧ a0 ≤ 2147483647) (bA1 : -9223372036854775808 ≤ a1 ∧ a1 ≤ 9223372036854775807) (K : ∀ (v : Int), (-1 ≤ v ∧ v ≤ 1) → ex_q (dt_fg L ρ) rc (d + 2, (f.1, f.2.1, f.2.2.1, eI v :: f.2.2.2), F, μ)) : ex_q (dt_fg L ρ) rc (d + 1, (83, 0, [some (eI (a0)), some (eJ (a1)), none], []), f :: F, μ) := by
  refine w_t (np := 1) (l2 := [some (eI (a0)), some (eJ (a1)), none]) (s2 := [eJ (a1)]) rfl rfl rfl ?_
  refine w_t (np := 2) (l2 := [some (eI (a0)), some (eJ (a1)), none]) (s2 := [eI (a0), eJ (a1)]) rfl rfl rfl ?_
  refine v_gs (np := 5) rfl rfl ?_
  refine w_cu (np := 8) (as := [eJ (a1), eI (a0), eR 14]) (l2 := [some (eJ (a1)), none, some (eI (a0)), some (eR 14), none, none, none]) (rest := []) rfl rfl rfl (Nat.ble_eq.mp rfl) rfl rfl rfl rfl ?_
  refine s_80 (a2 := a0) hI bA1 (by omega) ?_
  intro v1 b2
  show ex_q (dt_fg L ρ) rc (d + 1, (83, 8, [some (eI (a0)), some (eJ (a1)), none], [eI (v1)]), f :: F, μ)
  refine w_t (np := 9) (l2 := [some (eI (a0)), some (eJ (a1)), none]) (s2 := [eJ (a1), eI (v1)]) rfl rfl rfl ?_
  refine w_t (np := 10) (l2 := [some (eI (a0)), some (eJ (a1)), none]) (s2 := [eI (a0), eJ (a1), eI (v1)]) rfl rfl rfl ?_
  refine v_gs (np := 13) rfl rfl ?_
  refine w_cu (np := 16) (as := [eJ (a1), eI (a0), eR 15]) (l2 := [some (eJ (a1)), none, some (eI (a0)), some (eR 15), none, none, none]) (rest := [eI (v1)]) rfl rfl rfl (Nat.ble_eq.mp rfl) rfl rfl rfl rfl ?_
  refine s_80_2 (a2 := a0) hI bA1 (by omega) ?_
  intro v3 b4
  show ex_q (dt_fg L ρ) rc (d + 1, (83, 16, [some (eI (a0)), some (eJ (a1)), none], [eI (v3), eI (v1)]), f :: F, μ)
  refine w_cu (np := 19) (as := [eI (v1), eI (v3)]) (l2 := [some (eI (v1)), some (eI (v3)), none, none, none, none, none]) (rest := []) rfl rfl rfl (Nat.ble_eq.mp rfl) rfl rfl rfl rfl ?_
  refine s_85 (a0 := v1) (a1 := v3) hI (by omega) (by omega) ?_
  intro v5 b6
  show ex_q (dt_fg L ρ) rc (d + 1, (83, 19, [some (eI (a0)), some (eJ (a1)), none], [eI (v5)]), f :: F, μ)
  exact b_ri rfl rfl (K (v5) (by omega))
theorem s_84 {L : Nat} {ρ : Nat → Int} {rc : eQ} {d : Nat} {f : eFr} {F : List eFr} {μ : eM} {g : Nat → Nat} {a0 : Int} {a1 : Int} (hI : SI g μ) (bA0 : -2147483648 ≤ a0 ∧ a0 ≤ 2147483647) (bA1 : -9223372036854775808 ≤ a1 ∧ a1 ≤ 9223372036854775807) (K : ∀ (v : Int), (0 ≤ v ∧ v ≤ 1) → ex_q (dt_fg L ρ) rc (d + 2, (f.1, f.2.1, f.2.2.1, eI v :: f.2.2.2), F, μ)) : ex_q (dt_fg L ρ) rc (d + 1, (84, 0, [some (eI (a0)), some (eJ (a1)), none, none, none], []), f :: F, μ) := by
  refine w_t (np := 1) (l2 := [some (eI (a0)), some (eJ (a1)), none, none, none]) (s2 := [eJ (a1)]) rfl rfl rfl ?_
  refine w_t (np := 2) (l2 := [some (eI (a0)), some (eJ (a1)), none, none, none]) (s2 := [eI (a0), eJ (a1)]) rfl rfl rfl ?_
  refine v_gs (np := 5) rfl rfl ?_
  refine w_cu (np := 8) (as := [eJ (a1), eI (a0), eR 14]) (l2 := [some (eJ (a1)), none, some (eI (a0)), some (eR 14), none, none, none]) (rest := []) rfl rfl rfl (Nat.ble_eq.mp rfl) rfl rfl rfl rfl ?_
  refine s_80 (a2 := a0) hI bA1 (by omega) ?_
  intro v1 b2
  show ex_q (dt_fg L ρ) rc (d + 1, (84, 8, [some (eI (a0)), some (eJ (a1)), none, none, none], [eI (v1)]), f :: F, μ)
  refine b_ine (t1 := 22) (t2 := 11) rfl rfl rfl (ev_w_in (by omega) (by omega)) (fun g3 => ?_) (fun g3 => ?_)
  · refine w_t (np := 23) (l2 := [some (eI (a0)), some (eJ (a1)), none, none, none]) (s2 := [eI (0)]) rfl rfl rfl ?_
    exact b_rz rfl rfl (Or.inl rfl) (K (0) (by decide))
  · have b4 : 0 ≤ v1 ∧ v1 ≤ 0 := by omega
    refine w_t (np := 12) (l2 := [some (eI (a0)), some (eJ (a1)), none, none, none]) (s2 := [eJ (a1)]) rfl rfl rfl ?_
    refine w_t (np := 13) (l2 := [some (eI (a0)), some (eJ (a1)), none, none, none]) (s2 := [eI (a0), eJ (a1)]) rfl rfl rfl ?_
    refine v_gs (np := 16) rfl rfl ?_
    refine w_cu (np := 19) (as := [eJ (a1), eI (a0), eR 15]) (l2 := [some (eJ (a1)), none, some (eI (a0)), some (eR 15), none, none, none]) (rest := []) rfl rfl rfl (Nat.ble_eq.mp rfl) rfl rfl rfl rfl ?_
    refine s_80_2 (a2 := a0) hI bA1 (by omega) ?_
    intro v4 b5
    show ex_q (dt_fg L ρ) rc (d + 1, (84, 19, [some (eI (a0)), some (eJ (a1)), none, none, none], [eI (v4)]), f :: F, μ)
    refine b_ieq (t1 := 24) (t2 := 22) rfl rfl rfl (ev_w_in (by omega) (by omega)) (fun g6 => ?_) (fun g6 => ?_)
    · have b7 : 0 ≤ v4 ∧ v4 ≤ 0 := by omega
      refine w_t (np := 25) (l2 := [some (eI (a0)), some (eJ (a1)), none, none, none]) (s2 := [eJ (a1)]) rfl rfl rfl ?_
      refine w_t (np := 26) (l2 := [some (eI (a0)), some (eJ (a1)), none, none, none]) (s2 := [eI (a0), eJ (a1)]) rfl rfl rfl ?_
      refine v_gs (np := 29) rfl rfl ?_
      refine w_cu (np := 32) (as := [eJ (a1), eI (a0), eR 16]) (l2 := [some (eJ (a1)), none, some (eI (a0)), some (eR 16), none, none, none]) (rest := []) rfl rfl rfl (Nat.ble_eq.mp rfl) rfl rfl rfl rfl ?_
      refine s_80_3 (a2 := a0) hI bA1 (by omega) ?_
      intro v7 b8
      show ex_q (dt_fg L ρ) rc (d + 1, (84, 32, [some (eI (a0)), some (eJ (a1)), none, none, none], [eI (v7)]), f :: F, μ)
      refine w_t (np := 33) (l2 := [some (eI (a0)), some (eJ (a1)), none, some (eI (v7)), none]) (s2 := []) rfl rfl rfl ?_
      refine w_t (np := 34) (l2 := [some (eI (a0)), some (eJ (a1)), none, some (eI (v7)), none]) (s2 := [eJ (a1)]) rfl rfl rfl ?_
      refine w_t (np := 35) (l2 := [some (eI (a0)), some (eJ (a1)), none, some (eI (v7)), none]) (s2 := [eI (a0), eJ (a1)]) rfl rfl rfl ?_
      refine v_gs (np := 38) rfl rfl ?_
      refine w_cu (np := 41) (as := [eJ (a1), eI (a0), eR 17]) (l2 := [some (eJ (a1)), none, some (eI (a0)), some (eR 17), none, none, none]) (rest := []) rfl rfl rfl (Nat.ble_eq.mp rfl) rfl rfl rfl rfl ?_
      refine s_80_4 (a2 := a0) hI bA1 (by omega) ?_
      intro v9 b10
      show ex_q (dt_fg L ρ) rc (d + 1, (84, 41, [some (eI (a0)), some (eJ (a1)), none, some (eI (v7)), none], [eI (v9)]), f :: F, μ)
      refine w_t (np := 43) (l2 := [some (eI (a0)), some (eJ (a1)), none, some (eI (v7)), some (eI (v9))]) (s2 := []) rfl rfl rfl ?_
      refine w_t (np := 44) (l2 := [some (eI (a0)), some (eJ (a1)), none, some (eI (v7)), some (eI (v9))]) (s2 := [eI (v7)]) rfl rfl rfl ?_
      refine w_t (np := 46) (l2 := [some (eI (a0)), some (eJ (a1)), none, some (eI (v7)), some (eI (v9))]) (s2 := [eI (v9), eI (v7)]) rfl rfl rfl ?_
      refine w_cu (np := 49) (as := [eI (v7), eI (v9)]) (l2 := [some (eI (v7)), some (eI (v9)), none, none, none, none, none]) (rest := []) rfl rfl rfl (Nat.ble_eq.mp rfl) rfl rfl rfl rfl ?_
      refine s_85 (a0 := v7) (a1 := v9) hI (by omega) (by omega) ?_
      intro v11 b12
      show ex_q (dt_fg L ρ) rc (d + 1, (84, 49, [some (eI (a0)), some (eJ (a1)), none, some (eI (v7)), some (eI (v9))], [eI (v11)]), f :: F, μ)
      refine b_ile (t1 := 67) (t2 := 52) rfl rfl rfl (ev_w_in (by omega) (by omega)) (fun g13 => ?_) (fun g13 => ?_)
      · have b14 : -1 ≤ v11 ∧ v11 ≤ 0 := by omega
        refine w_t (np := 68) (l2 := [some (eI (a0)), some (eJ (a1)), none, some (eI (v7)), some (eI (v9))]) (s2 := [eI (0)]) rfl rfl rfl ?_
        exact b_rz rfl rfl (Or.inl rfl) (K (0) (by decide))
      · have b14 : 1 ≤ v11 ∧ v11 ≤ 1 := by omega
        refine w_t (np := 53) (l2 := [some (eI (a0)), some (eJ (a1)), none, some (eI (v7)), some (eI (v9))]) (s2 := [eI (v7)]) rfl rfl rfl ?_
        refine w_t (np := 54) (l2 := [some (eI (a0)), some (eJ (a1)), none, some (eI (v7)), some (eI (v9))]) (s2 := [eI (2), eI (v7)]) rfl rfl rfl ?_
        obtain ⟨v14, e15, b16⟩ : ∃ zz : Int, ev_w ((v7) - (2)) = zz ∧ (-2147483648 ≤ zz ∧ zz ≤ 2147483647) := ⟨_, rfl, hw_bd _⟩
        refine w_t (np := 55) (l2 := [some (eI (a0)), some (eJ (a1)), none, some (eI (v7)), some (eI (v9))]) (s2 := [eI (v14)]) rfl (b_isub e15) rfl ?_
        refine w_t (np := 57) (l2 := [some (eI (a0)), some (eJ (a1)), none, some (eI (v7)), some (eI (v9))]) (s2 := [eI (v9), eI (v14)]) rfl rfl rfl ?_
        refine w_cu (np := 60) (as := [eI (v14), eI (v9)]) (l2 := [some (eI (v14)), some (eI (v9)), none, none, none, none, none]) (rest := []) rfl rfl rfl (Nat.ble_eq.mp rfl) rfl rfl rfl rfl ?_
        refine s_85 (a0 := v14) (a1 := v9) hI (by omega) (by omega) ?_
        intro v17 b18
        show ex_q (dt_fg L ρ) rc (d + 1, (84, 60, [some (eI (a0)), some (eJ (a1)), none, some (eI (v7)), some (eI (v9))], [eI (v17)]), f :: F, μ)
        refine b_ige (t1 := 67) (t2 := 63) rfl rfl rfl (ev_w_in (by omega) (by omega)) (fun g19 => ?_) (fun g19 => ?_)
        · have b20 : 0 ≤ v17 ∧ v17 ≤ 1 := by omega
          refine w_t (np := 68) (l2 := [some (eI (a0)), some (eJ (a1)), none, some (eI (v7)), some (eI (v9))]) (s2 := [eI (0)]) rfl rfl rfl ?_
          exact b_rz rfl rfl (Or.inl rfl) (K (0) (by decide))
        · have b20 : -1 ≤ v17 ∧ v17 ≤ -1 := by omega
          refine w_t (np := 64) (l2 := [some (eI (a0)), some (eJ (a1)), none, some (eI (v7)), some (eI (v9))]) (s2 := [eI (1)]) rfl rfl rfl ?_
          refine w_go (t1 := 68) rfl rfl ?_
          exact b_rz rfl rfl (Or.inr rfl) (K (1) (by decide))
    · refine w_t (np := 23) (l2 := [some (eI (a0)), some (eJ (a1)), none, none, none]) (s2 := [eI (0)]) rfl rfl rfl ?_
      exact b_rz rfl rfl (Or.inl rfl) (K (0) (by decide))
def l_94 : List Nat := [5124, 5632, 5888]
theorem s_94 {L : Nat} {ρ : Nat → Int} {rc : eQ} {d : Nat} {f : eFr} {F : List eFr} {μ : eM} {g : Nat → Nat} {a0 : Nat} {a1 : Nat} {a2 : Int} {a3 : Int} (hI : SI g μ) (gA0 : g a0 = 20) (gA1 : g a1 = 29) (bA2 : 0 ≤ a2 ∧ a2 ≤ 23) (bA3 : 0 ≤ a3 ∧ a3 ≤ 3) (K : ∀ (μ2 : eM), SI g μ2 → Fr l_94 0 0 g μ μ2 → ex_q (dt_fg L ρ) rc (d + 4, (f.1, f.2.1, f.2.2.1, f.2.2.2), F, μ2)) : ex_q (dt_fg L ρ) rc (d + 3, (94, 0, [some (eR a0), some (eR a1), some (eI (a2)), some (eI (a3)), none, none, none], []), f :: F, μ) := by
  have F0 : Fr l_94 0 0 g μ μ := Fr.r
  refine w_t (np := 1) (l2 := [some (eR a0), some (eR a1), some (eI (a2)), some (eI (a3)), none, none, none]) (s2 := [eR a1]) rfl (s_an rfl (pos_g hI gA1 (by decide))) rfl ?_
  refine w_t (np := 2) (l2 := [some (eR a0), some (eR a1), some (eI (a2)), some (eI (a3)), none, none, none]) (s2 := [eI (a2), eR a1]) rfl rfl rfl ?_
  refine w_t (np := 3) (l2 := [some (eR a0), some (eR a1), some (eI (a2)), some (eI (a3)), none, none, none]) (s2 := [eI (a3), eI (a2), eR a1]) rfl rfl rfl ?_
  refine w_cw (np := 6) (as := [eI (a2), eI (a3)]) (l2 := [some (eR a1), some (eI (a2)), some (eI (a3)), none, none]) (rest := []) rfl rfl rfl (Nat.ble_eq.mp rfl) rfl rfl rfl (hI.kd gA1 (by decide) (n := 7) rfl) rfl ?_
  refine s_152 (a1 := a2) (a2 := a3) hI gA1 (by omega) (by omega) ?_
  intro v1 b2
  show ex_q (dt_fg L ρ) rc (d + 3, (94, 6, [some (eR a0), some (eR a1), some (eI (a2)), some (eI (a3)), none, none, none], [eI (v1)]), f :: F, μ)
  refine w_t (np := 8) (l2 := [some (eR a0), some (eR a1), some (eI (a2)), some (eI (a3)), some (eI (v1)), none, none]) (s2 := []) rfl rfl rfl ?_
  refine w_t (np := 9) (l2 := [some (eR a0), some (eR a1), some (eI (a2)), some (eI (a3)), some (eI (v1)), none, none]) (s2 := [eR a1]) rfl (s_an rfl (pos_g hI gA1 (by decide))) rfl ?_
  refine w_t (np := 10) (l2 := [some (eR a0), some (eR a1), some (eI (a2)), some (eI (a3)), some (eI (v1)), none, none]) (s2 := [eI (a2), eR a1]) rfl rfl rfl ?_
  refine w_t (np := 11) (l2 := [some (eR a0), some (eR a1), some (eI (a2)), some (eI (a3)), some (eI (v1)), none, none]) (s2 := [eI (a3), eI (a2), eR a1]) rfl rfl rfl ?_
  refine w_cw (np := 14) (as := [eI (a2), eI (a3)]) (l2 := [some (eR a1), some (eI (a2)), some (eI (a3)), none]) (rest := []) rfl rfl rfl (Nat.ble_eq.mp rfl) rfl rfl rfl (hI.kd gA1 (by decide) (n := 7) rfl) rfl ?_
  refine s_151 (a1 := a2) (a2 := a3) hI gA1 (by omega) (by omega) ?_
  intro v3 b4
  show ex_q (dt_fg L ρ) rc (d + 3, (94, 14, [some (eR a0), some (eR a1), some (eI (a2)), some (eI (a3)), some (eI (v1)), none, none], [eI (v3)]), f :: F, μ)
  refine w_t (np := 16) (l2 := [some (eR a0), some (eR a1), some (eI (a2)), some (eI (a3)), some (eI (v1)), some (eI (v3)), none]) (s2 := []) rfl rfl rfl ?_
  refine w_t (np := 17) (l2 := [some (eR a0), some (eR a1), some (eI (a2)), some (eI (a3)), some (eI (v1)), some (eI (v3)), none]) (s2 := [eI (0)]) rfl rfl rfl ?_
  refine w_t (np := 19) (l2 := [some (eR a0), some (eR a1), some (eI (a2)), some (eI (a3)), some (eI (v1)), some (eI (v3)), some (eI (0))]) (s2 := []) rfl rfl rfl ?_
  have hL19 : ∀ (n5 : Nat) (m9 : eM) (i7 : Int), SI g m9 → Fr l_94 0 0 g μ m9 → (0 ≤ i7 ∧ i7 ≤ 4) → n5 = (4 - i7).toNat → ex_q (dt_fg L ρ) rc (d + 3, (94, 19, [some (eR a0), some (eR a1), some (eI (a2)), some (eI (a3)), some (eI (v1)), some (eI (v3)), some (eI (i7))], []), f :: F, m9) := by
    intro n5
    induction n5 using Nat.strongRecOn with
    | _ n5 ih6 =>
    intro m9 i7 I10 F11 b8 hn12
    refine w_t (np := 21) (l2 := [some (eR a0), some (eR a1), some (eI (a2)), some (eI (a3)), some (eI (v1)), some (eI (v3)), some (eI (i7))]) (s2 := [eI (i7)]) rfl rfl rfl ?_
    refine w_t (np := 23) (l2 := [some (eR a0), some (eR a1), some (eI (a2)), some (eI (a3)), some (eI (v1)), some (eI (v3)), some (eI (i7))]) (s2 := [eI (v3), eI (i7)]) rfl rfl rfl ?_
    refine b_cge (t1 := 46) (t2 := 26) rfl rfl rfl (ev_w_in (by omega) (by omega)) (ev_w_in (by omega) (by omega)) (fun g13 => ?_) (fun g13 => ?_)
    · have b14 : 1 ≤ i7 ∧ i7 ≤ 4 := by omega
      refine w_t (np := 47) (l2 := [some (eR a0), some (eR a1), some (eI (a2)), some (eI (a3)), some (eI (v1)), some (eI (v3)), some (eI (i7))]) (s2 := [eR a0]) rfl (s_an rfl (pos_g I10 gA0 (by decide))) rfl ?_
      refine j_gr (np := 50) rfl rfl I10 gA0 (by decide) (n := 9) rfl rfl rfl ?_
      intro v14 e15 b16 z17
      have b16 : g v14 = 23 := Nat.eq_of_beq_eq_true b16
      refine w_t (np := 52) (l2 := [some (eR a0), some (eR a1), some (eI (a2)), some (eI (a3)), some (eI (v1)), some (eI (v3)), some (eI (i7))]) (s2 := [eI (v1), eR v14]) rfl rfl rfl ?_
      refine w_t (np := 53) (l2 := [some (eR a0), some (eR a1), some (eI (a2)), some (eI (a3)), some (eI (v1)), some (eI (v3)), some (eI (i7))]) (s2 := [eR a1, eI (v1), eR v14]) rfl (s_an rfl (pos_g I10 gA1 (by decide))) rfl ?_
      refine w_t (np := 54) (l2 := [some (eR a0), some (eR a1), some (eI (a2)), some (eI (a3)), some (eI (v1)), some (eI (v3)), some (eI (i7))]) (s2 := [eI (a2), eR a1, eI (v1), eR v14]) rfl rfl rfl ?_
      refine w_t (np := 55) (l2 := [some (eR a0), some (eR a1), some (eI (a2)), some (eI (a3)), some (eI (v1)), some (eI (v3)), some (eI (i7))]) (s2 := [eI (a3), eI (a2), eR a1, eI (v1), eR v14]) rfl rfl rfl ?_
      refine w_t (np := 56) (l2 := [some (eR a0), some (eR a1), some (eI (a2)), some (eI (a3)), some (eI (v1)), some (eI (v3)), some (eI (i7))]) (s2 := [eI (0), eI (a3), eI (a2), eR a1, eI (v1), eR v14]) rfl rfl rfl ?_
      refine w_cw (np := 59) (as := [eI (a2), eI (a3), eI (0)]) (l2 := [some (eR a1), some (eI (a2)), some (eI (a3)), some (eI (0)), none, none]) (rest := [eI (v1), eR v14]) rfl rfl rfl (Nat.ble_eq.mp rfl) rfl rfl rfl (I10.kd gA1 (by decide) (n := 7) rfl) rfl ?_
      refine s_153 (a1 := a2) (a2 := a3) (a3 := 0) I10 gA1 (by omega) (by omega) (by decide) ?_
      intro v18 b19
      show ex_q (dt_fg L ρ) rc (d + 3, (94, 59, [some (eR a0), some (eR a1), some (eI (a2)), some (eI (a3)), some (eI (v1)), some (eI (v3)), some (eI (i7))], [eI (v18), eI (v1), eR v14]), f :: F, m9)
      refine j_as (np := 60) rfl rfl I10 b16 (by decide) (n := 10) rfl rfl (lo := 0) (hi := 3) (fun _ => rfl) (by omega) (by omega) (by omega) ?_
      intro m20 I21 W22
      have F23 : Fr l_94 0 0 g μ m20 := F11.v W22 b16 rfl rfl
      refine w_t (np := 61) (l2 := [some (eR a0), some (eR a1), some (eI (a2)), some (eI (a3)), some (eI (v1)), some (eI (v3)), some (eI (i7))]) (s2 := [eR a0]) rfl (s_an rfl (pos_g I21 gA0 (by decide))) rfl ?_
      refine w_gf (np := 64) (v := eR v14) rfl rfl (I21.kd gA0 (by decide) (n := 9) rfl) (by rw [(W22.addr e15 b16 gA0 (by decide))]; rfl) ?_
      refine w_t (np := 66) (l2 := [some (eR a0), some (eR a1), some (eI (a2)), some (eI (a3)), some (eI (v1)), some (eI (v3)), some (eI (i7))]) (s2 := [eI (v1), eR v14]) rfl rfl rfl ?_
      refine w_t (np := 68) (l2 := [some (eR a0), some (eR a1), some (eI (a2)), some (eI (a3)), some (eI (v1)), some (eI (v3)), some (eI (i7))]) (s2 := [eI (v3), eI (v1), eR v14]) rfl rfl rfl ?_
      obtain ⟨v24, e25⟩ : ∃ zz : Int, zz = (v1) + (v3) := ⟨_, rfl⟩
      have b26 : 1 ≤ v24 ∧ v24 ≤ 13 := by omega
      refine w_t (np := 69) (l2 := [some (eR a0), some (eR a1), some (eI (a2)), some (eI (a3)), some (eI (v1)), some (eI (v3)), some (eI (i7))]) (s2 := [eI (v24), eR v14]) rfl (b_iadd (by rw [← e25]; exact ev_w_in (by omega) (by omega))) rfl ?_
      refine w_t (np := 71) (l2 := [some (eR a0), some (eR a1), some (eI (a2)), some (eI (a3)), some (eI (v1)), some (eI (v3)), some (eI (i7))]) (s2 := [eI (10), eI (v24), eR v14]) rfl rfl rfl ?_
      obtain ⟨v27, e28, b29⟩ := h_irem (a := v24) (k := 10) (by decide) (by decide) (show (-2147483648 : Int) ≤ v24 ∧ (v24 : Int) ≤ 2147483647 by omega)
      have b30 : 0 ≤ v27 ∧ v27 ≤ 9 := by omega
      refine w_t (np := 72) (l2 := [some (eR a0), some (eR a1), some (eI (a2)), some (eI (a3)), some (eI (v1)), some (eI (v3)), some (eI (i7))]) (s2 := [eI (v27), eR v14]) rfl (e28 _ _) rfl ?_
      refine w_t (np := 73) (l2 := [some (eR a0), some (eR a1), some (eI (a2)), some (eI (a3)), some (eI (v1)), some (eI (v3)), some (eI (i7))]) (s2 := [eR a1, eI (v27), eR v14]) rfl (s_an rfl (pos_g I21 gA1 (by decide))) rfl ?_
      refine w_t (np := 74) (l2 := [some (eR a0), some (eR a1), some (eI (a2)), some (eI (a3)), some (eI (v1)), some (eI (v3)), some (eI (i7))]) (s2 := [eI (a2), eR a1, eI (v27), eR v14]) rfl rfl rfl ?_
      refine w_t (np := 75) (l2 := [some (eR a0), some (eR a1), some (eI (a2)), some (eI (a3)), some (eI (v1)), some (eI (v3)), some (eI (i7))]) (s2 := [eI (a3), eI (a2), eR a1, eI (v27), eR v14]) rfl rfl rfl ?_
      refine w_t (np := 76) (l2 := [some (eR a0), some (eR a1), some (eI (a2)), some (eI (a3)), some (eI (v1)), some (eI (v3)), some (eI (i7))]) (s2 := [eI (1), eI (a3), eI (a2), eR a1, eI (v27), eR v14]) rfl rfl rfl ?_
      refine w_cw (np := 79) (as := [eI (a2), eI (a3), eI (1)]) (l2 := [some (eR a1), some (eI (a2)), some (eI (a3)), some (eI (1)), none, none]) (rest := [eI (v27), eR v14]) rfl rfl rfl (Nat.ble_eq.mp rfl) rfl rfl rfl (I21.kd gA1 (by decide) (n := 7) rfl) rfl ?_
      refine s_153 (a1 := a2) (a2 := a3) (a3 := 1) I21 gA1 (by omega) (by omega) (by decide) ?_
      intro v31 b32
      show ex_q (dt_fg L ρ) rc (d + 3, (94, 79, [some (eR a0), some (eR a1), some (eI (a2)), some (eI (a3)), some (eI (v1)), some (eI (v3)), some (eI (i7))], [eI (v31), eI (v27), eR v14]), f :: F, m20)
      refine j_as (np := 80) rfl rfl I21 b16 (by decide) (n := 10) rfl rfl (lo := 0) (hi := 3) (fun _ => rfl) (by omega) (by omega) (by omega) ?_
      intro m33 I34 W35
      have F36 : Fr l_94 0 0 g μ m33 := F23.v W35 b16 rfl rfl
      refine w_t (np := 81) (l2 := [some (eR a0), some (eR a1), some (eI (a2)), some (eI (a3)), some (eI (v1)), some (eI (v3)), some (eI (i7))]) (s2 := [eR a0]) rfl (s_an rfl (pos_g I34 gA0 (by decide))) rfl ?_
      refine w_t (np := 82) (l2 := [some (eR a0), some (eR a1), some (eI (a2)), some (eI (a3)), some (eI (v1)), some (eI (v3)), some (eI (i7))]) (s2 := [eR a0, eR a0]) rfl rfl rfl ?_
      refine j_gi (np := 85) rfl rfl rfl I34 gA0 (by decide) (n := 9) rfl rfl (lo := -2147483648) (hi := 2147483647) rfl ?_
      intro v37 e38 b39
      refine w_t (np := 87) (l2 := [some (eR a0), some (eR a1), some (eI (a2)), some (eI (a3)), some (eI (v1)), some (eI (v3)), some (eI (i7))]) (s2 := [eI (v3), eI (v37), eR a0]) rfl rfl rfl ?_
      obtain ⟨v40, e41, b42⟩ : ∃ zz : Int, ev_w ((v37) + (v3)) = zz ∧ (-2147483648 ≤ zz ∧ zz ≤ 2147483647) := ⟨_, rfl, hw_bd _⟩
      refine w_t (np := 88) (l2 := [some (eR a0), some (eR a1), some (eI (a2)), some (eI (a3)), some (eI (v1)), some (eI (v3)), some (eI (i7))]) (s2 := [eI (v40), eR a0]) rfl (b_iadd e41) rfl ?_
      refine j_pf (np := 91) (w := v40) rfl rfl I34 gA0 (by decide) (n := 9) rfl rfl (hO_i (lo := -2147483648) (hi := 2147483647) rfl (by omega)) ?_
      intro m43 I44 W45
      have F46 : Fr l_94 0 0 g μ m43 := F36.w W45 gA0 rfl
      exact v_rv rfl rfl (K m43 I44 F46)
    · have b14 : 0 ≤ i7 ∧ i7 ≤ 3 := by omega
      refine w_t (np := 27) (l2 := [some (eR a0), some (eR a1), some (eI (a2)), some (eI (a3)), some (eI (v1)), some (eI (v3)), some (eI (i7))]) (s2 := [eR a0]) rfl (s_an rfl (pos_g I10 gA0 (by decide))) rfl ?_
      refine j_gr (np := 30) rfl rfl I10 gA0 (by decide) (n := 9) rfl rfl rfl ?_
      intro v14 e15 b16 z17
      have b16 : g v14 = 22 := Nat.eq_of_beq_eq_true b16
      refine w_t (np := 32) (l2 := [some (eR a0), some (eR a1), some (eI (a2)), some (eI (a3)), some (eI (v1)), some (eI (v3)), some (eI (i7))]) (s2 := [eI (v1), eR v14]) rfl rfl rfl ?_
      refine w_t (np := 34) (l2 := [some (eR a0), some (eR a1), some (eI (a2)), some (eI (a3)), some (eI (v1)), some (eI (v3)), some (eI (i7))]) (s2 := [eI (i7), eI (v1), eR v14]) rfl rfl rfl ?_
      obtain ⟨v18, e19⟩ : ∃ zz : Int, zz = (v1) + (i7) := ⟨_, rfl⟩
      have b20 : 0 ≤ v18 ∧ v18 ≤ 12 := by omega
      refine w_t (np := 35) (l2 := [some (eR a0), some (eR a1), some (eI (a2)), some (eI (a3)), some (eI (v1)), some (eI (v3)), some (eI (i7))]) (s2 := [eI (v18), eR v14]) rfl (b_iadd (by rw [← e19]; exact ev_w_in (by omega) (by omega))) rfl ?_
      refine w_t (np := 37) (l2 := [some (eR a0), some (eR a1), some (eI (a2)), some (eI (a3)), some (eI (v1)), some (eI (v3)), some (eI (i7))]) (s2 := [eI (10), eI (v18), eR v14]) rfl rfl rfl ?_
      obtain ⟨v21, e22, b23⟩ := h_irem (a := v18) (k := 10) (by decide) (by decide) (show (-2147483648 : Int) ≤ v18 ∧ (v18 : Int) ≤ 2147483647 by omega)
      have b24 : 0 ≤ v21 ∧ v21 ≤ 9 := by omega
      refine w_t (np := 38) (l2 := [some (eR a0), some (eR a1), some (eI (a2)), some (eI (a3)), some (eI (v1)), some (eI (v3)), some (eI (i7))]) (s2 := [eI (v21), eR v14]) rfl (e22 _ _) rfl ?_
      refine w_t (np := 39) (l2 := [some (eR a0), some (eR a1), some (eI (a2)), some (eI (a3)), some (eI (v1)), some (eI (v3)), some (eI (i7))]) (s2 := [eI (1), eI (v21), eR v14]) rfl rfl rfl ?_
      refine j_sb3 (np := 40) rfl rfl I10 b16 (by decide) (n := 10) rfl rfl (lo := 0) (hi := 1) (fun _ => rfl) (by omega) (by omega) (by decide) (by decide) ?_
      intro m25 I26 W27
      have F28 : Fr l_94 0 0 g μ m25 := F11.v W27 b16 rfl rfl
      obtain ⟨v29, e30⟩ : ∃ zz : Int, zz = (i7) + (1) := ⟨_, rfl⟩
      have b31 : 1 ≤ v29 ∧ v29 ≤ 4 := by omega
      refine w_t (np := 43) (l2 := [some (eR a0), some (eR a1), some (eI (a2)), some (eI (a3)), some (eI (v1)), some (eI (v3)), some (eI (v29))]) (s2 := []) rfl (b_iinc rfl (by rw [← e30]; exact ev_w_in (by omega) (by omega)) rfl) rfl ?_
      refine w_go (t1 := 19) rfl rfl ?_
      exact ih6 (4 - (v29)).toNat (by omega) m25 (v29) I26 F28 (by omega)     rfl
  exact hL19 _ μ (0) hI F0 (by decide)     rfl
def l_108 : List Nat := [9216, 9472, 9728]
theorem s_108 {L : Nat} {ρ : Nat → Int} {rc : eQ} {d : Nat} {f : eFr} {F : List eFr} {μ : eM} {g : Nat → Nat} {a0 : Nat} {a1 : Int} (hI : SI g μ) (gA0 : g a0 = 35) (bA1 : 0 ≤ a1 ∧ a1 ≤ 2669) (K : ∀ (μ2 : eM), SI g μ2 → Fr l_108 0 0 g μ μ2 → ex_q (dt_fg L ρ) rc (d + 4, (f.1, f.2.1, f.2.2.1, f.2.2.2), F, μ2)) : ex_q (dt_fg L ρ) rc (d + 3, (108, 0, [some (eR a0), some (eI (a1)), none, none, none], []), f :: F, μ) := by
  have F0 : Fr l_108 0 0 g μ μ := Fr.r
  refine w_t (np := 1) (l2 := [some (eR a0), some (eI (a1)), none, none, none]) (s2 := [eR a0]) rfl (s_an rfl (pos_g hI gA0 (by decide))) rfl ?_
  refine w_t (np := 2) (l2 := [some (eR a0), some (eI (a1)), none, none, none]) (s2 := [eI (a1), eR a0]) rfl rfl rfl ?_
  refine w_cw (np := 5) (as := [eI (a1)]) (l2 := [some (eR a0), some (eI (a1))]) (rest := []) rfl rfl rfl (Nat.ble_eq.mp rfl) rfl rfl rfl (hI.kd gA0 (by decide) (n := 15) rfl) rfl ?_
  refine s_110 (a1 := a1) hI gA0 (by omega) ?_
  intro v1 b2
  show ex_q (dt_fg L ρ) rc (d + 3, (108, 5, [some (eR a0), some (eI (a1)), none, none, none], [eI (v1)]), f :: F, μ)
  refine w_t (np := 6) (l2 := [some (eR a0), some (eI (a1)), some (eI (v1)), none, none]) (s2 := []) rfl rfl rfl ?_
  refine w_t (np := 7) (l2 := [some (eR a0), some (eI (a1)), some (eI (v1)), none, none]) (s2 := [eR a0]) rfl (s_an rfl (pos_g hI gA0 (by decide))) rfl ?_
  refine j_gr (np := 10) rfl rfl hI gA0 (by decide) (n := 15) rfl rfl rfl ?_
  intro v3 e4 b5 z6
  have b5 : g v3 = 36 := Nat.eq_of_beq_eq_true b5
  refine w_t (np := 11) (l2 := [some (eR a0), some (eI (a1)), some (eI (v1)), none, none]) (s2 := [eI (a1), eR v3]) rfl rfl rfl ?_
  refine w_t (np := 12) (l2 := [some (eR a0), some (eI (a1)), some (eI (v1)), none, none]) (s2 := [eI (-1), eI (a1), eR v3]) rfl rfl rfl ?_
  refine j_as (np := 13) rfl rfl hI b5 (by decide) (n := 2670) rfl rfl (lo := -1) (hi := 2669) (fun _ => rfl) (by omega) (by omega) (by decide) ?_
  intro m7 I8 W9
  have F10 : Fr l_108 0 0 g μ m7 := F0.v W9 b5 rfl rfl
  refine w_t (np := 14) (l2 := [some (eR a0), some (eI (a1)), some (eI (v1)), none, none]) (s2 := [eR a0]) rfl (s_an rfl (pos_g I8 gA0 (by decide))) rfl ?_
  refine j_gr (np := 17) rfl rfl I8 gA0 (by decide) (n := 15) rfl rfl rfl ?_
  intro v11 e12 b13 z14
  have b13 : g v11 = 37 := Nat.eq_of_beq_eq_true b13
  refine w_t (np := 18) (l2 := [some (eR a0), some (eI (a1)), some (eI (v1)), none, none]) (s2 := [eI (v1), eR v11]) rfl rfl rfl ?_
  refine j_al (np := 19) rfl rfl I8 b13 (by decide) (n := 512) rfl rfl (lo := -1) (hi := 2669) (fun _ => rfl) (by omega) (by omega) ?_
  intro v15 e16 b17
  refine w_t (np := 20) (l2 := [some (eR a0), some (eI (a1)), some (eI (v1)), some (eI (v15)), none]) (s2 := []) rfl rfl rfl ?_
  refine w_t (np := 21) (l2 := [some (eR a0), some (eI (a1)), some (eI (v1)), some (eI (v15)), none]) (s2 := [eI (0)]) rfl rfl rfl ?_
  refine w_t (np := 23) (l2 := [some (eR a0), some (eI (a1)), some (eI (v1)), some (eI (v15)), some (eI (0))]) (s2 := []) rfl rfl rfl ?_
  have hL23 : ∀ (n18 : Nat) (m24 : eM) (i20 : Int) (i22 : Int), SI g m24 → Fr l_108 0 0 g μ m24 → (-1 ≤ i20 ∧ i20 ≤ 2669) → (0 ≤ i22 ∧ i22 ≤ 2670) → m24.1 a0 0 = ((v3 : Nat) : Int) → m24.1 a0 1 = ((v11 : Nat) : Int) → m24.1 v11 (v1).toNat = v15 → n18 = (2670 - i22).toNat → ex_q (dt_fg L ρ) rc (d + 3, (108, 23, [some (eR a0), some (eI (a1)), some (eI (v1)), some (eI (i20)), some (eI (i22))], []), f :: F, m24) := by
    intro n18
    induction n18 using Nat.strongRecOn with
    | _ n18 ih19 =>
    intro m24 i20 i22 I25 F26 b21 b23 k27 k28 k29 hn30
    refine w_t (np := 25) (l2 := [some (eR a0), some (eI (a1)), some (eI (v1)), some (eI (i20)), some (eI (i22))]) (s2 := [eI (i22)]) rfl rfl rfl ?_
    refine w_t (np := 26) (l2 := [some (eR a0), some (eI (a1)), some (eI (v1)), some (eI (i20)), some (eI (i22))]) (s2 := [eR a0, eI (i22)]) rfl (s_an rfl (pos_g I25 gA0 (by decide))) rfl ?_
    refine j_gr (np := 29) rfl rfl I25 gA0 (by decide) (n := 15) rfl rfl rfl ?_
    intro v31 e32 b33 z34
    have b33 : g v31 = 38 := Nat.eq_of_beq_eq_true b33
    refine j_len (np := 30) rfl rfl I25 b33 (by decide) (c := 100) (n := 2670) rfl rfl rfl ?_
    rw [show ((2670 : Nat) : Int) = 2670 from rfl]
    refine b_cge (t1 := 77) (t2 := 33) rfl rfl rfl (ev_w_in (by omega) (by omega)) rfl (fun g35 => ?_) (fun g35 => ?_)
    · have b36 : 2670 ≤ i22 ∧ i22 ≤ 2670 := by omega
      refine w_t (np := 78) (l2 := [some (eR a0), some (eI (a1)), some (eI (v1)), some (eI (i20)), some (eI (i22))]) (s2 := [eR a0]) rfl (s_an rfl (pos_g I25 gA0 (by decide))) rfl ?_
      refine w_gf (np := 81) (v := eR v31) rfl rfl (I25.kd gA0 (by decide) (n := 15) rfl) (by rw [e32]; rfl) ?_
      refine w_t (np := 82) (l2 := [some (eR a0), some (eI (a1)), some (eI (v1)), some (eI (i20)), some (eI (i22))]) (s2 := [eI (a1), eR v31]) rfl rfl rfl ?_
      refine w_t (np := 83) (l2 := [some (eR a0), some (eI (a1)), some (eI (v1)), some (eI (i20)), some (eI (i22))]) (s2 := [eR a0, eI (a1), eR v31]) rfl (s_an rfl (pos_g I25 gA0 (by decide))) rfl ?_
      refine w_gf (np := 86) (v := eR v11) rfl rfl (I25.kd gA0 (by decide) (n := 15) rfl) (by rw [k28]; rfl) ?_
      refine w_t (np := 87) (l2 := [some (eR a0), some (eI (a1)), some (eI (v1)), some (eI (i20)), some (eI (i22))]) (s2 := [eI (v1), eR v11, eI (a1), eR v31]) rfl rfl rfl ?_
      refine j_al (np := 88) rfl rfl I25 b13 (by decide) (n := 512) rfl rfl (lo := -1) (hi := 2669) (fun _ => rfl) (by omega) (by omega) ?_
      intro v36 e37 b38
      have e37 := e37.symm.trans k29
      rw [e37]
      refine j_as (np := 89) rfl rfl I25 b33 (by decide) (n := 2670) rfl rfl (lo := -1) (hi := 2669) (fun _ => rfl) (by omega) (by omega) (by omega) ?_
      intro m39 I40 W41
      have F42 : Fr l_108 0 0 g μ m39 := F26.v W41 b33 rfl rfl
      refine w_t (np := 90) (l2 := [some (eR a0), some (eI (a1)), some (eI (v1)), some (eI (i20)), some (eI (i22))]) (s2 := [eR a0]) rfl (s_an rfl (pos_g I40 gA0 (by decide))) rfl ?_
      refine w_gf (np := 93) (v := eR v11) rfl rfl (I40.kd gA0 (by decide) (n := 15) rfl) (by rw [(W41.addr k28 b33 gA0 (by decide))]; rfl) ?_
      refine w_t (np := 94) (l2 := [some (eR a0), some (eI (a1)), some (eI (v1)), some (eI (i20)), some (eI (i22))]) (s2 := [eI (v1), eR v11]) rfl rfl rfl ?_
      refine w_t (np := 95) (l2 := [some (eR a0), some (eI (a1)), some (eI (v1)), some (eI (i20)), some (eI (i22))]) (s2 := [eI (a1), eI (v1), eR v11]) rfl rfl rfl ?_
      refine j_as (np := 96) rfl rfl I40 b13 (by decide) (n := 512) rfl rfl (lo := -1) (hi := 2669) (fun _ => rfl) (by omega) (by omega) (by omega) ?_
      intro m43 I44 W45
      have F46 : Fr l_108 0 0 g μ m43 := F42.v W45 b13 rfl rfl
      exact v_rv rfl rfl (K m43 I44 F46)
    · have b36 : 0 ≤ i22 ∧ i22 ≤ 2669 := by omega
      refine w_t (np := 34) (l2 := [some (eR a0), some (eI (a1)), some (eI (v1)), some (eI (i20)), some (eI (i22))]) (s2 := [eI (i20)]) rfl rfl rfl ?_
      refine b_ilt (t1 := 77) (t2 := 37) rfl rfl rfl (ev_w_in (by omega) (by omega)) (fun g36 => ?_) (fun g36 => ?_)
      · have b37 : -1 ≤ i20 ∧ i20 ≤ -1 := by omega
        refine w_t (np := 78) (l2 := [some (eR a0), some (eI (a1)), some (eI (v1)), some (eI (i20)), some (eI (i22))]) (s2 := [eR a0]) rfl (s_an rfl (pos_g I25 gA0 (by decide))) rfl ?_
        refine w_gf (np := 81) (v := eR v31) rfl rfl (I25.kd gA0 (by decide) (n := 15) rfl) (by rw [e32]; rfl) ?_
        refine w_t (np := 82) (l2 := [some (eR a0), some (eI (a1)), some (eI (v1)), some (eI (i20)), some (eI (i22))]) (s2 := [eI (a1), eR v31]) rfl rfl rfl ?_
        refine w_t (np := 83) (l2 := [some (eR a0), some (eI (a1)), some (eI (v1)), some (eI (i20)), some (eI (i22))]) (s2 := [eR a0, eI (a1), eR v31]) rfl (s_an rfl (pos_g I25 gA0 (by decide))) rfl ?_
        refine w_gf (np := 86) (v := eR v11) rfl rfl (I25.kd gA0 (by decide) (n := 15) rfl) (by rw [k28]; rfl) ?_
        refine w_t (np := 87) (l2 := [some (eR a0), some (eI (a1)), some (eI (v1)), some (eI (i20)), some (eI (i22))]) (s2 := [eI (v1), eR v11, eI (a1), eR v31]) rfl rfl rfl ?_
        refine j_al (np := 88) rfl rfl I25 b13 (by decide) (n := 512) rfl rfl (lo := -1) (hi := 2669) (fun _ => rfl) (by omega) (by omega) ?_
        intro v37 e38 b39
        have e38 := e38.symm.trans k29
        rw [e38]
        refine j_as (np := 89) rfl rfl I25 b33 (by decide) (n := 2670) rfl rfl (lo := -1) (hi := 2669) (fun _ => rfl) (by omega) (by omega) (by omega) ?_
        intro m40 I41 W42
        have F43 : Fr l_108 0 0 g μ m40 := F26.v W42 b33 rfl rfl
        refine w_t (np := 90) (l2 := [some (eR a0), some (eI (a1)), some (eI (v1)), some (eI (i20)), some (eI (i22))]) (s2 := [eR a0]) rfl (s_an rfl (pos_g I41 gA0 (by decide))) rfl ?_
        refine w_gf (np := 93) (v := eR v11) rfl rfl (I41.kd gA0 (by decide) (n := 15) rfl) (by rw [(W42.addr k28 b33 gA0 (by decide))]; rfl) ?_
        refine w_t (np := 94) (l2 := [some (eR a0), some (eI (a1)), some (eI (v1)), some (eI (i20)), some (eI (i22))]) (s2 := [eI (v1), eR v11]) rfl rfl rfl ?_
        refine w_t (np := 95) (l2 := [some (eR a0), some (eI (a1)), some (eI (v1)), some (eI (i20)), some (eI (i22))]) (s2 := [eI (a1), eI (v1), eR v11]) rfl rfl rfl ?_
        refine j_as (np := 96) rfl rfl I41 b13 (by decide) (n := 512) rfl rfl (lo := -1) (hi := 2669) (fun _ => rfl) (by omega) (by omega) (by omega) ?_
        intro m44 I45 W46
        have F47 : Fr l_108 0 0 g μ m44 := F43.v W46 b13 rfl rfl
        exact v_rv rfl rfl (K m44 I45 F47)
      · have b37 : 0 ≤ i20 ∧ i20 ≤ 2669 := by omega
        refine w_t (np := 38) (l2 := [some (eR a0), some (eI (a1)), some (eI (v1)), some (eI (i20)), some (eI (i22))]) (s2 := [eR a0]) rfl (s_an rfl (pos_g I25 gA0 (by decide))) rfl ?_
        refine w_t (np := 39) (l2 := [some (eR a0), some (eI (a1)), some (eI (v1)), some (eI (i20)), some (eI (i22))]) (s2 := [eI (i20), eR a0]) rfl rfl rfl ?_
        refine w_cw (np := 42) (as := [eI (i20)]) (l2 := [some (eR a0), some (eI (i20))]) (rest := []) rfl rfl rfl (Nat.ble_eq.mp rfl) rfl rfl rfl (I25.kd gA0 (by decide) (n := 15) rfl) rfl ?_
        refine s_111 (a1 := i20) I25 gA0 (by omega) ?_
        intro v37 b38
        show ex_q (dt_fg L ρ) rc (d + 3, (108, 42, [some (eR a0), some (eI (a1)), some (eI (v1)), some (eI (i20)), some (eI (i22))], [eI (v37)]), f :: F, m24)
        refine w_t (np := 43) (l2 := [some (eR a0), some (eI (a1)), some (eI (v1)), some (eI (i20)), some (eI (i22))]) (s2 := [eR a0, eI (v37)]) rfl (s_an rfl (pos_g I25 gA0 (by decide))) rfl ?_
        refine w_t (np := 44) (l2 := [some (eR a0), some (eI (a1)), some (eI (v1)), some (eI (i20)), some (eI (i22))]) (s2 := [eI (a1), eR a0, eI (v37)]) rfl rfl rfl ?_
        refine w_cw (np := 47) (as := [eI (a1)]) (l2 := [some (eR a0), some (eI (a1))]) (rest := [eI (v37)]) rfl rfl rfl (Nat.ble_eq.mp rfl) rfl rfl rfl (I25.kd gA0 (by decide) (n := 15) rfl) rfl ?_
        refine s_111 (a1 := a1) I25 gA0 (by omega) ?_
        intro v39 b40
        show ex_q (dt_fg L ρ) rc (d + 3, (108, 47, [some (eR a0), some (eI (a1)), some (eI (v1)), some (eI (i20)), some (eI (i22))], [eI (v39), eI (v37)]), f :: F, m24)
        refine b_cne (t1 := 64) (t2 := 50) rfl rfl rfl (ev_w_in (by omega) (by omega)) (ev_w_in (by omega) (by omega)) (fun g41 => ?_) (fun g41 => ?_)
        · refine w_t (np := 65) (l2 := [some (eR a0), some (eI (a1)), some (eI (v1)), some (eI (i20)), some (eI (i22))]) (s2 := [eR a0]) rfl (s_an rfl (pos_g I25 gA0 (by decide))) rfl ?_
          refine w_gf (np := 68) (v := eR v31) rfl rfl (I25.kd gA0 (by decide) (n := 15) rfl) (by rw [e32]; rfl) ?_
          refine w_t (np := 69) (l2 := [some (eR a0), some (eI (a1)), some (eI (v1)), some (eI (i20)), some (eI (i22))]) (s2 := [eI (i20), eR v31]) rfl rfl rfl ?_
          refine j_al (np := 70) rfl rfl I25 b33 (by decide) (n := 2670) rfl rfl (lo := -1) (hi := 2669) (fun _ => rfl) (by omega) (by omega) ?_
          intro v42 e43 b44
          refine w_t (np := 71) (l2 := [some (eR a0), some (eI (a1)), some (eI (v1)), some (eI (v42)), some (eI (i22))]) (s2 := []) rfl rfl rfl ?_
          obtain ⟨v45, e46⟩ : ∃ zz : Int, zz = (i22) + (1) := ⟨_, rfl⟩
          have b47 : 1 ≤ v45 ∧ v45 ≤ 2670 := by omega
          refine w_t (np := 74) (l2 := [some (eR a0), some (eI (a1)), some (eI (v1)), some (eI (v42)), some (eI (v45))]) (s2 := []) rfl (b_iinc rfl (by rw [← e46]; exact ev_w_in (by omega) (by omega)) rfl) rfl ?_
          refine w_go (t1 := 23) rfl rfl ?_
          exact ih19 (2670 - (v45)).toNat (by omega) m24 (v42) (v45) I25 F26 (by omega) (by omega) k27 k28 k29    rfl
        · refine w_t (np := 51) (l2 := [some (eR a0), some (eI (a1)), some (eI (v1)), some (eI (i20)), some (eI (i22))]) (s2 := [eR a0]) rfl (s_an rfl (pos_g I25 gA0 (by decide))) rfl ?_
          refine w_gf (np := 54) (v := eR v3) rfl rfl (I25.kd gA0 (by decide) (n := 15) rfl) (by rw [k27]; rfl) ?_
          refine w_t (np := 55) (l2 := [some (eR a0), some (eI (a1)), some (eI (v1)), some (eI (i20)), some (eI (i22))]) (s2 := [eI (a1), eR v3]) rfl rfl rfl ?_
          refine w_t (np := 56) (l2 := [some (eR a0), some (eI (a1)), some (eI (v1)), some (eI (i20)), some (eI (i22))]) (s2 := [eI (i20), eI (a1), eR v3]) rfl rfl rfl ?_
          refine j_as (np := 57) rfl rfl I25 b5 (by decide) (n := 2670) rfl rfl (lo := -1) (hi := 2669) (fun _ => rfl) (by omega) (by omega) (by omega) ?_
          intro m42 I43 W44
          have F45 : Fr l_108 0 0 g μ m42 := F26.v W44 b5 rfl rfl
          refine w_t (np := 58) (l2 := [some (eR a0), some (eI (a1)), some (eI (v1)), some (eI (i20)), some (eI (i22))]) (s2 := [eR a0]) rfl (s_an rfl (pos_g I43 gA0 (by decide))) rfl ?_
          refine w_gf (np := 61) (v := eR v3) rfl rfl (I43.kd gA0 (by decide) (n := 15) rfl) (by rw [(W44.addr k27 b5 gA0 (by decide))]; rfl) ?_
          refine w_t (np := 62) (l2 := [some (eR a0), some (eI (a1)), some (eI (v1)), some (eI (i20)), some (eI (i22))]) (s2 := [eI (i20), eR v3]) rfl rfl rfl ?_
          refine w_t (np := 63) (l2 := [some (eR a0), some (eI (a1)), some (eI (v1)), some (eI (i20)), some (eI (i22))]) (s2 := [eI (a1), eI (i20), eR v3]) rfl rfl rfl ?_
          refine j_as (np := 64) rfl rfl I43 b5 (by decide) (n := 2670) rfl rfl (lo := -1) (hi := 2669) (fun _ => rfl) (by omega) (by omega) (by omega) ?_
          intro m46 I47 W48
          have F49 : Fr l_108 0 0 g μ m46 := F45.v W48 b5 rfl rfl
          refine w_t (np := 65) (l2 := [some (eR a0), some (eI (a1)), some (eI (v1)), some (eI (i20)), some (eI (i22))]) (s2 := [eR a0]) rfl (s_an rfl (pos_g I47 gA0 (by decide))) rfl ?_
          refine w_gf (np := 68) (v := eR v31) rfl rfl (I47.kd gA0 (by decide) (n := 15) rfl) (by rw [(W48.addr (W44.addr e32 b5 gA0 (by decide)) b5 gA0 (by decide))]; rfl) ?_
          refine w_t (np := 69) (l2 := [some (eR a0), some (eI (a1)), some (eI (v1)), some (eI (i20)), some (eI (i22))]) (s2 := [eI (i20), eR v31]) rfl rfl rfl ?_
          refine j_al (np := 70) rfl rfl I47 b33 (by decide) (n := 2670) rfl rfl (lo := -1) (hi := 2669) (fun _ => rfl) (by omega) (by omega) ?_
          intro v50 e51 b52
          refine w_t (np := 71) (l2 := [some (eR a0), some (eI (a1)), some (eI (v1)), some (eI (v50)), some (eI (i22))]) (s2 := []) rfl rfl rfl ?_
          obtain ⟨v53, e54⟩ : ∃ zz : Int, zz = (i22) + (1) := ⟨_, rfl⟩
          have b55 : 1 ≤ v53 ∧ v53 ≤ 2670 := by omega
          refine w_t (np := 74) (l2 := [some (eR a0), some (eI (a1)), some (eI (v1)), some (eI (v50)), some (eI (v53))]) (s2 := []) rfl (b_iinc rfl (by rw [← e54]; exact ev_w_in (by omega) (by omega)) rfl) rfl ?_
          refine w_go (t1 := 23) rfl rfl ?_
          exact ih19 (2670 - (v53)).toNat (by omega) m46 (v50) (v53) I47 F49 (by omega) (by omega) (W48.addr (W44.addr k27 b5 gA0 (by decide)) b5 gA0 (by decide)) (W48.addr (W44.addr k28 b5 gA0 (by decide)) b5 gA0 (by decide)) (W48.addr (W44.addr k29 b5 b13 (by decide)) b5 b13 (by decide))    rfl
  exact hL23 _ m7 (v15) (0) I8 F10 (by omega) (by decide) (W9.addr e4 b5 gA0 (by decide)) e12 e16    rfl
def l_114 : List Nat := [8971, 8972, 8970]
theorem s_114 {L : Nat} {ρ : Nat → Int} {rc : eQ} {d : Nat} {f : eFr} {F : List eFr} {μ : eM} {g : Nat → Nat} {a0 : Nat} {a1 : Int} {a2 : Int} (hI : SI g μ) (gA0 : g a0 = 35) (bA1 : 0 ≤ a1 ∧ a1 ≤ 2669) (bA2 : -1 ≤ a2 ∧ a2 ≤ 2669) (K : ∀ (μ2 : eM), SI g μ2 → Fr l_114 0 0 g μ μ2 → ex_q (dt_fg L ρ) rc (d + 3, (f.1, f.2.1, f.2.2.1, f.2.2.2), F, μ2)) : ex_q (dt_fg L ρ) rc (d + 2, (114, 0, [some (eR a0), some (eI (a1)), some (eI (a2))], []), f :: F, μ) := by
  have F0 : Fr l_114 0 0 g μ μ := Fr.r
  refine w_t (np := 1) (l2 := [some (eR a0), some (eI (a1)), some (eI (a2))]) (s2 := [eI (a2)]) rfl rfl rfl ?_
  refine b_ige (t1 := 17) (t2 := 4) rfl rfl rfl (ev_w_in (by omega) (by omega)) (fun g1 => ?_) (fun g1 => ?_)
  · have b2 : 0 ≤ a2 ∧ a2 ≤ 2669 := by omega
    refine w_t (np := 18) (l2 := [some (eR a0), some (eI (a1)), some (eI (a2))]) (s2 := [eI (a1)]) rfl rfl rfl ?_
    refine w_t (np := 19) (l2 := [some (eR a0), some (eI (a1)), some (eI (a2))]) (s2 := [eI (3), eI (a1)]) rfl rfl rfl ?_
    obtain ⟨v2, e3, b4⟩ := h_irem (a := a1) (k := 3) (by decide) (by decide) (show (-2147483648 : Int) ≤ a1 ∧ (a1 : Int) ≤ 2147483647 by omega)
    have b5 : 0 ≤ v2 ∧ v2 ≤ 2 := by omega
    refine w_t (np := 20) (l2 := [some (eR a0), some (eI (a1)), some (eI (a2))]) (s2 := [eI (v2)]) rfl (e3 _ _) rfl ?_
    refine w_t (np := 21) (l2 := [some (eR a0), some (eI (a1)), some (eI (a2))]) (s2 := [eI (a2), eI (v2)]) rfl rfl rfl ?_
    refine w_t (np := 22) (l2 := [some (eR a0), some (eI (a1)), some (eI (a2))]) (s2 := [eI (3), eI (a2), eI (v2)]) rfl rfl rfl ?_
    obtain ⟨v6, e7, b8⟩ := h_irem (a := a2) (k := 3) (by decide) (by decide) (show (-2147483648 : Int) ≤ a2 ∧ (a2 : Int) ≤ 2147483647 by omega)
    have b9 : 0 ≤ v6 ∧ v6 ≤ 2 := by omega
    refine w_t (np := 23) (l2 := [some (eR a0), some (eI (a1)), some (eI (a2))]) (s2 := [eI (v6), eI (v2)]) rfl (e7 _ _) rfl ?_
    refine b_cne (t1 := 52) (t2 := 26) rfl rfl rfl (ev_w_in (by omega) (by omega)) (ev_w_in (by omega) (by omega)) (fun g10 => ?_) (fun g10 => ?_)
    · refine w_t (np := 53) (l2 := [some (eR a0), some (eI (a1)), some (eI (a2))]) (s2 := [eR a0]) rfl (s_an rfl (pos_g hI gA0 (by decide))) rfl ?_
      refine w_t (np := 54) (l2 := [some (eR a0), some (eI (a1)), some (eI (a2))]) (s2 := [eR a0, eR a0]) rfl rfl rfl ?_
      refine j_gi (np := 57) rfl rfl rfl hI gA0 (by decide) (n := 15) rfl rfl (lo := -2147483648) (hi := 2147483647) rfl ?_
      intro v11 e12 b13
      refine w_t (np := 58) (l2 := [some (eR a0), some (eI (a1)), some (eI (a2))]) (s2 := [eI (1), eI (v11), eR a0]) rfl rfl rfl ?_
      obtain ⟨v14, e15, b16⟩ : ∃ zz : Int, ev_w ((v11) + (1)) = zz ∧ (-2147483648 ≤ zz ∧ zz ≤ 2147483647) := ⟨_, rfl, hw_bd _⟩
      refine w_t (np := 59) (l2 := [some (eR a0), some (eI (a1)), some (eI (a2))]) (s2 := [eI (v14), eR a0]) rfl (b_iadd e15) rfl ?_
      refine j_pf (np := 62) (w := v14) rfl rfl hI gA0 (by decide) (n := 15) rfl rfl (hO_i (lo := -2147483648) (hi := 2147483647) rfl (by omega)) ?_
      intro m17 I18 W19
      have F20 : Fr l_114 0 0 g μ m17 := F0.w W19 gA0 rfl
      exact v_rv rfl rfl (K m17 I18 F20)
    · refine w_t (np := 27) (l2 := [some (eR a0), some (eI (a1)), some (eI (a2))]) (s2 := [eR a0]) rfl (s_an rfl (pos_g hI gA0 (by decide))) rfl ?_
      refine w_t (np := 28) (l2 := [some (eR a0), some (eI (a1)), some (eI (a2))]) (s2 := [eI (a1), eR a0]) rfl rfl rfl ?_
      refine w_cw (np := 31) (as := [eI (a1)]) (l2 := [some (eR a0), some (eI (a1)), none]) (rest := []) rfl rfl rfl (Nat.ble_eq.mp rfl) rfl rfl rfl (hI.kd gA0 (by decide) (n := 15) rfl) rfl ?_
      refine s_115 (a1 := a1) hI gA0 (by omega) ?_
      intro v11 b12
      show ex_q (dt_fg L ρ) rc (d + 2, (114, 31, [some (eR a0), some (eI (a1)), some (eI (a2))], [eI (v11)]), f :: F, μ)
      refine w_t (np := 32) (l2 := [some (eR a0), some (eI (a1)), some (eI (a2))]) (s2 := [eR a0, eI (v11)]) rfl (s_an rfl (pos_g hI gA0 (by decide))) rfl ?_
      refine w_t (np := 33) (l2 := [some (eR a0), some (eI (a1)), some (eI (a2))]) (s2 := [eI (a2), eR a0, eI (v11)]) rfl rfl rfl ?_
      refine w_cw (np := 36) (as := [eI (a2)]) (l2 := [some (eR a0), some (eI (a2)), none]) (rest := [eI (v11)]) rfl rfl rfl (Nat.ble_eq.mp rfl) rfl rfl rfl (hI.kd gA0 (by decide) (n := 15) rfl) rfl ?_
      refine s_115 (a1 := a2) hI gA0 (by omega) ?_
      intro v13 b14
      show ex_q (dt_fg L ρ) rc (d + 2, (114, 36, [some (eR a0), some (eI (a1)), some (eI (a2))], [eI (v13), eI (v11)]), f :: F, μ)
      refine b_cne (t1 := 52) (t2 := 39) rfl rfl rfl (ev_w_in (by omega) (by omega)) (ev_w_in (by omega) (by omega)) (fun g15 => ?_) (fun g15 => ?_)
      · refine w_t (np := 53) (l2 := [some (eR a0), some (eI (a1)), some (eI (a2))]) (s2 := [eR a0]) rfl (s_an rfl (pos_g hI gA0 (by decide))) rfl ?_
        refine w_t (np := 54) (l2 := [some (eR a0), some (eI (a1)), some (eI (a2))]) (s2 := [eR a0, eR a0]) rfl rfl rfl ?_
        refine j_gi (np := 57) rfl rfl rfl hI gA0 (by decide) (n := 15) rfl rfl (lo := -2147483648) (hi := 2147483647) rfl ?_
        intro v16 e17 b18
        refine w_t (np := 58) (l2 := [some (eR a0), some (eI (a1)), some (eI (a2))]) (s2 := [eI (1), eI (v16), eR a0]) rfl rfl rfl ?_
        obtain ⟨v19, e20, b21⟩ : ∃ zz : Int, ev_w ((v16) + (1)) = zz ∧ (-2147483648 ≤ zz ∧ zz ≤ 2147483647) := ⟨_, rfl, hw_bd _⟩
        refine w_t (np := 59) (l2 := [some (eR a0), some (eI (a1)), some (eI (a2))]) (s2 := [eI (v19), eR a0]) rfl (b_iadd e20) rfl ?_
        refine j_pf (np := 62) (w := v19) rfl rfl hI gA0 (by decide) (n := 15) rfl rfl (hO_i (lo := -2147483648) (hi := 2147483647) rfl (by omega)) ?_
        intro m22 I23 W24
        have F25 : Fr l_114 0 0 g μ m22 := F0.w W24 gA0 rfl
        exact v_rv rfl rfl (K m22 I23 F25)
      · refine w_t (np := 40) (l2 := [some (eR a0), some (eI (a1)), some (eI (a2))]) (s2 := [eR a0]) rfl (s_an rfl (pos_g hI gA0 (by decide))) rfl ?_
        refine w_t (np := 41) (l2 := [some (eR a0), some (eI (a1)), some (eI (a2))]) (s2 := [eR a0, eR a0]) rfl rfl rfl ?_
        refine j_gi (np := 44) rfl rfl rfl hI gA0 (by decide) (n := 15) rfl rfl (lo := -2147483648) (hi := 2147483647) rfl ?_
        intro v16 e17 b18
        refine w_t (np := 45) (l2 := [some (eR a0), some (eI (a1)), some (eI (a2))]) (s2 := [eI (1), eI (v16), eR a0]) rfl rfl rfl ?_
        obtain ⟨v19, e20, b21⟩ : ∃ zz : Int, ev_w ((v16) + (1)) = zz ∧ (-2147483648 ≤ zz ∧ zz ≤ 2147483647) := ⟨_, rfl, hw_bd _⟩
        refine w_t (np := 46) (l2 := [some (eR a0), some (eI (a1)), some (eI (a2))]) (s2 := [eI (v19), eR a0]) rfl (b_iadd e20) rfl ?_
        refine j_pf (np := 49) (w := v19) rfl rfl hI gA0 (by decide) (n := 15) rfl rfl (hO_i (lo := -2147483648) (hi := 2147483647) rfl (by omega)) ?_
        intro m22 I23 W24
        have F25 : Fr l_114 0 0 g μ m22 := F0.w W24 gA0 rfl
        refine w_go (t1 := 62) rfl rfl ?_
        exact v_rv rfl rfl (K m22 I23 F25)
  · have b2 : -1 ≤ a2 ∧ a2 ≤ -1 := by omega
    refine w_t (np := 5) (l2 := [some (eR a0), some (eI (a1)), some (eI (a2))]) (s2 := [eR a0]) rfl (s_an rfl (pos_g hI gA0 (by decide))) rfl ?_
    refine w_t (np := 6) (l2 := [some (eR a0), some (eI (a1)), some (eI (a2))]) (s2 := [eR a0, eR a0]) rfl rfl rfl ?_
    refine j_gi (np := 9) rfl rfl rfl hI gA0 (by decide) (n := 15) rfl rfl (lo := -2147483648) (hi := 2147483647) rfl ?_
    intro v2 e3 b4
    refine w_t (np := 10) (l2 := [some (eR a0), some (eI (a1)), some (eI (a2))]) (s2 := [eI (1), eI (v2), eR a0]) rfl rfl rfl ?_
    obtain ⟨v5, e6, b7⟩ : ∃ zz : Int, ev_w ((v2) + (1)) = zz ∧ (-2147483648 ≤ zz ∧ zz ≤ 2147483647) := ⟨_, rfl, hw_bd _⟩
    refine w_t (np := 11) (l2 := [some (eR a0), some (eI (a1)), some (eI (a2))]) (s2 := [eI (v5), eR a0]) rfl (b_iadd e6) rfl ?_
    refine j_pf (np := 14) (w := v5) rfl rfl hI gA0 (by decide) (n := 15) rfl rfl (hO_i (lo := -2147483648) (hi := 2147483647) rfl (by omega)) ?_
    intro m8 I9 W10
    have F11 : Fr l_114 0 0 g μ m8 := F0.w W10 gA0 rfl
    refine w_go (t1 := 62) rfl rfl ?_
    exact v_rv rfl rfl (K m8 I9 F11)
def l_119 : List Nat := [9984, 10240]
theorem s_119 {L : Nat} {ρ : Nat → Int} {rc : eQ} {d : Nat} {f : eFr} {F : List eFr} {μ : eM} {g : Nat → Nat} {a0 : Nat} {a1 : Int} {a2 : Int} (hI : SI g μ) (gA0 : g a0 = 35) (bA1 : -2147483648 ≤ a1 ∧ a1 ≤ 2147483647) (bA2 : -2147483648 ≤ a2 ∧ a2 ≤ 2147483647) (K : ∀ (μ2 : eM) (v : Int), SI g μ2 → Fr l_119 0 0 g μ μ2 → (-2147483648 ≤ v ∧ v ≤ 2147483647) → ex_q (dt_fg L ρ) rc (d + 3, (f.1, f.2.1, f.2.2.1, eI v :: f.2.2.2), F, μ2)) : ex_q (dt_fg L ρ) rc (d + 2, (119, 0, [some (eR a0), some (eI (a1)), some (eI (a2)), none, none, none, none, none], []), f :: F, μ) := by
  have F0 : Fr l_119 0 0 g μ μ := Fr.r
  refine w_t (np := 1) (l2 := [some (eR a0), some (eI (a1)), some (eI (a2)), none, none, none, none, none]) (s2 := [eR a0]) rfl (s_an rfl (pos_g hI gA0 (by decide))) rfl ?_
  refine j_gr (np := 4) rfl rfl hI gA0 (by decide) (n := 15) rfl rfl rfl ?_
  intro v1 e2 b3 z4
  rcases hor2 b3 with b3 | b3
  · refine w_t (np := 5) (l2 := [some (eR a0), some (eI (a1)), some (eI (a2)), none, none, none, none, none]) (s2 := [eI (a1), eR v1]) rfl rfl rfl ?_
    refine w_cw (np := 8) (as := [eI (a1)]) (l2 := [some (eR v1), some (eI (a1))]) (rest := []) rfl rfl rfl (Nat.ble_eq.mp rfl) rfl rfl rfl (hI.kd b3 (by decide) (n := 8) rfl) rfl ?_
    refine w_t (np := 1) (l2 := [some (eR v1), some (eI (a1))]) (s2 := [eI (a1)]) rfl rfl rfl ?_
    refine b_ilt (t1 := 12) (t2 := 4) rfl rfl rfl (ev_w_in (by omega) (by omega)) (fun g5 => ?_) (fun g5 => ?_)
    · have b6 : -2147483648 ≤ a1 ∧ a1 ≤ -1 := by omega
      refine w_t (np := 13) (l2 := [some (eR v1), some (eI (a1))]) (s2 := [eI (1)]) rfl rfl rfl ?_
      refine w_go (t1 := 17) rfl rfl ?_
      refine b_rz rfl rfl (Or.inr rfl) ?_
      show ex_q (dt_fg L ρ) rc (d + 2, (119, 8, [some (eR a0), some (eI (a1)), some (eI (a2)), none, none, none, none, none], [eI (1)]), f :: F, μ)
      refine b_ieq (t1 := 13) (t2 := 11) rfl rfl rfl rfl (fun g6 => absurd g6 (by decide)) (fun g6 => ?_)
      refine w_t (np := 12) (l2 := [some (eR a0), some (eI (a1)), some (eI (a2)), none, none, none, none, none]) (s2 := [eI (0)]) rfl rfl rfl ?_
      exact b_ri rfl rfl (K μ (0) hI F0 (by decide))
    · have b6 : 0 ≤ a1 ∧ a1 ≤ 2147483647 := by omega
      refine w_t (np := 5) (l2 := [some (eR v1), some (eI (a1))]) (s2 := [eI (a1)]) rfl rfl rfl ?_
      refine w_t (np := 6) (l2 := [some (eR v1), some (eI (a1))]) (s2 := [eR v1, eI (a1)]) rfl (s_an rfl (pos_g hI b3 (by decide))) rfl ?_
      refine j_gi (np := 9) rfl rfl rfl hI b3 (by decide) (n := 8) rfl rfl (lo := 0) (hi := 50) rfl ?_
      intro v6 e7 b8
      refine b_clt (t1 := 16) (t2 := 12) rfl rfl rfl (ev_w_in (by omega) (by omega)) (ev_w_in (by omega) (by omega)) (fun g9 => ?_) (fun g9 => ?_)
      · have b10 : 0 ≤ a1 ∧ a1 ≤ 49 := by omega
        have b11 : 1 ≤ v6 ∧ v6 ≤ 50 := by omega
        refine w_t (np := 17) (l2 := [some (eR v1), some (eI (a1))]) (s2 := [eI (0)]) rfl rfl rfl ?_
        refine b_rz rfl rfl (Or.inl rfl) ?_
        show ex_q (dt_fg L ρ) rc (d + 2, (119, 8, [some (eR a0), some (eI (a1)), some (eI (a2)), none, none, none, none, none], [eI (0)]), f :: F, μ)
        refine b_ieq (t1 := 13) (t2 := 11) rfl rfl rfl rfl (fun g10 => ?_) (fun g10 => absurd g10 (by decide))
        refine w_t (np := 14) (l2 := [some (eR a0), some (eI (a1)), some (eI (a2)), none, none, none, none, none]) (s2 := [eR a0]) rfl (s_an rfl (pos_g hI gA0 (by decide))) rfl ?_
        refine j_gr (np := 17) rfl rfl hI gA0 (by decide) (n := 15) rfl rfl rfl ?_
        intro v11 e12 b13 z14
        have b13 : g v11 = 39 := Nat.eq_of_beq_eq_true b13
        refine w_t (np := 18) (l2 := [some (eR a0), some (eI (a1)), some (eI (a2)), none, none, none, none, none]) (s2 := [eI (-1), eR v11]) rfl rfl rfl ?_
        refine w_cu (np := 21) (as := [eR v11, eI (-1)]) (l2 := [some (eR v11), some (eI (-1)), none, none]) (rest := []) rfl rfl rfl (Nat.ble_eq.mp rfl) rfl rfl rfl rfl ?_
        refine s_365_4 (a1 := -1) hI b13 (by decide) ?_
        intro m15 I16 F17
        have F18 : Fr l_119 0 0 g μ m15 := F0.t F17 rfl
        show ex_q (dt_fg L ρ) rc (d + 2, (119, 21, [some (eR a0), some (eI (a1)), some (eI (a2)), none, none, none, none, none], []), f :: F, m15)
        refine w_t (np := 22) (l2 := [some (eR a0), some (eI (a1)), some (eI (a2)), none, none, none, none, none]) (s2 := [eR a0]) rfl (s_an rfl (pos_g I16 gA0 (by decide))) rfl ?_
        refine w_gf (np := 25) (v := eR v11) rfl rfl (I16.kd gA0 (by decide) (n := 15) rfl) (by rw [(F17.k e12 gA0 (by decide) rfl)]; rfl) ?_
        refine w_t (np := 26) (l2 := [some (eR a0), some (eI (a1)), some (eI (a2)), none, none, none, none, none]) (s2 := [eI (a1), eR v11]) rfl rfl rfl ?_
        refine w_t (np := 27) (l2 := [some (eR a0), some (eI (a1)), some (eI (a2)), none, none, none, none, none]) (s2 := [eI (0), eI (a1), eR v11]) rfl rfl rfl ?_
        refine j_as (np := 28) rfl rfl I16 b13 (by decide) (n := 890) rfl rfl (lo := -2147483648) (hi := 2147483647) (fun _ => rfl) (by omega) (by omega) (by decide) ?_
        intro m19 I20 W21
        have F22 : Fr l_119 0 0 g μ m19 := F18.v W21 b13 rfl rfl
        refine w_t (np := 29) (l2 := [some (eR a0), some (eI (a1)), some (eI (a2)), none, none, none, none, none]) (s2 := [eR a0]) rfl (s_an rfl (pos_g I20 gA0 (by decide))) rfl ?_
        refine j_gr (np := 32) rfl rfl I20 gA0 (by decide) (n := 15) rfl rfl rfl ?_
        intro v23 e24 b25 z26
        have b25 : g v23 = 40 := Nat.eq_of_beq_eq_true b25
        refine w_t (np := 33) (l2 := [some (eR a0), some (eI (a1)), some (eI (a2)), none, none, none, none, none]) (s2 := [eI (0), eR v23]) rfl rfl rfl ?_
        refine w_t (np := 34) (l2 := [some (eR a0), some (eI (a1)), some (eI (a2)), none, none, none, none, none]) (s2 := [eI (a1), eI (0), eR v23]) rfl rfl rfl ?_
        refine j_as (np := 35) rfl rfl I20 b25 (by decide) (n := 890) rfl rfl (lo := 0) (hi := 889) (fun _ => rfl) (by decide) (by decide) (by omega) ?_
        intro m27 I28 W29
        have F30 : Fr l_119 0 0 g μ m27 := F22.v W29 b25 rfl rfl
        refine w_t (np := 36) (l2 := [some (eR a0), some (eI (a1)), some (eI (a2)), none, none, none, none, none]) (s2 := [eI (1)]) rfl rfl rfl ?_
        refine w_t (np := 37) (l2 := [some (eR a0), some (eI (a1)), some (eI (a2)), some (eI (1)), none, none, none, none]) (s2 := []) rfl rfl rfl ?_
        refine w_t (np := 38) (l2 := [some (eR a0), some (eI (a1)), some (eI (a2)), some (eI (1)), none, none, none, none]) (s2 := [eI (0)]) rfl rfl rfl ?_
        refine w_t (np := 40) (l2 := [some (eR a0), some (eI (a1)), some (eI (a2)), some (eI (1)), some (eI (0)), none, none, none]) (s2 := []) rfl rfl rfl ?_
        have hL40 : ∀ (n31 : Nat) (m40 : eM) (i33 : Int) (i35 : Int) (o37 : Option eV) (o38 : Option eV) (o39 : Option eV), SI g m40 → Fr l_119 0 0 g μ m40 → (0 ≤ i33 ∧ i33 ≤ 890) → (0 ≤ i35 ∧ i35 ≤ 890) → m40.1 a0 6 = ((v1 : Nat) : Int) → m40.1 v1 7 = v6 → m40.1 a0 3 = ((v11 : Nat) : Int) → m40.1 a0 4 = ((v23 : Nat) : Int) → n31 = (890 - i35).toNat → ex_q (dt_fg L ρ) rc (d + 2, (119, 40, [some (eR a0), some (eI (a1)), some (eI (a2)), some (eI (i33)), some (eI (i35)), o37, o38, o39], []), f :: F, m40) := by
          intro n31
          induction n31 using Nat.strongRecOn with
          | _ n31 ih32 =>
          intro m40 i33 i35 o37 o38 o39 I41 F42 b34 b36 k43 k44 k45 k46 hn47
          refine w_t (np := 42) (l2 := [some (eR a0), some (eI (a1)), some (eI (a2)), some (eI (i33)), some (eI (i35)), o37, o38, o39]) (s2 := [eI (i35)]) rfl rfl rfl ?_
          refine w_t (np := 43) (l2 := [some (eR a0), some (eI (a1)), some (eI (a2)), some (eI (i33)), some (eI (i35)), o37, o38, o39]) (s2 := [eI (i33), eI (i35)]) rfl rfl rfl ?_
          refine b_cge (t1 := 158) (t2 := 46) rfl rfl rfl (ev_w_in (by omega) (by omega)) (ev_w_in (by omega) (by omega)) (fun g48 => ?_) (fun g48 => ?_)
          · refine w_t (np := 159) (l2 := [some (eR a0), some (eI (a1)), some (eI (a2)), some (eI (i33)), some (eI (i35)), o37, o38, o39]) (s2 := [eI (i33)]) rfl rfl rfl ?_
            exact b_ri rfl rfl (K m40 (i33) I41 F42 (by omega))
          · have b49 : 0 ≤ i35 ∧ i35 ≤ 889 := by omega
            have b50 : 1 ≤ i33 ∧ i33 ≤ 890 := by omega
            refine w_t (np := 48) (l2 := [some (eR a0), some (eI (a1)), some (eI (a2)), some (eI (i33)), some (eI (i35)), o37, o38, o39]) (s2 := [eI (i35)]) rfl rfl rfl ?_
            refine w_t (np := 49) (l2 := [some (eR a0), some (eI (a1)), some (eI (a2)), some (eI (i33)), some (eI (i35)), o37, o38, o39]) (s2 := [eR a0, eI (i35)]) rfl (s_an rfl (pos_g I41 gA0 (by decide))) rfl ?_
            refine w_gf (np := 52) (v := eR v23) rfl rfl (I41.kd gA0 (by decide) (n := 15) rfl) (by rw [k46]; rfl) ?_
            refine j_len (np := 53) rfl rfl I41 b25 (by decide) (c := 100) (n := 890) rfl rfl rfl ?_
            rw [show ((890 : Nat) : Int) = 890 from rfl]
            refine b_cge (t1 := 158) (t2 := 56) rfl rfl rfl (ev_w_in (by omega) (by omega)) rfl (fun g49 => False.elim (by omega)) (fun g49 => ?_)
            refine w_t (np := 57) (l2 := [some (eR a0), some (eI (a1)), some (eI (a2)), some (eI (i33)), some (eI (i35)), o37, o38, o39]) (s2 := [eR a0]) rfl (s_an rfl (pos_g I41 gA0 (by decide))) rfl ?_
            refine w_gf (np := 60) (v := eR v23) rfl rfl (I41.kd gA0 (by decide) (n := 15) rfl) (by rw [k46]; rfl) ?_
            refine w_t (np := 62) (l2 := [some (eR a0), some (eI (a1)), some (eI (a2)), some (eI (i33)), some (eI (i35)), o37, o38, o39]) (s2 := [eI (i35), eR v23]) rfl rfl rfl ?_
            refine j_al (np := 63) rfl rfl I41 b25 (by decide) (n := 890) rfl rfl (lo := 0) (hi := 889) (fun _ => rfl) (by omega) (by omega) ?_
            intro v50 e51 b52
            refine w_t (np := 65) (l2 := [some (eR a0), some (eI (a1)), some (eI (a2)), some (eI (i33)), some (eI (i35)), some (eI (v50)), o38, o39]) (s2 := []) rfl rfl rfl ?_
            refine w_t (np := 66) (l2 := [some (eR a0), some (eI (a1)), some (eI (a2)), some (eI (i33)), some (eI (i35)), some (eI (v50)), o38, o39]) (s2 := [eI (0)]) rfl rfl rfl ?_
            refine w_t (np := 68) (l2 := [some (eR a0), some (eI (a1)), some (eI (a2)), some (eI (i33)), some (eI (i35)), some (eI (v50)), some (eI (0)), o39]) (s2 := []) rfl rfl rfl ?_
            have hL68 : ∀ (n53 : Nat) (m60 : eM) (i55 : Int) (i57 : Int) (o59 : Option eV), SI g m60 → Fr l_119 0 0 g μ m60 → (0 ≤ i55 ∧ i55 ≤ 890) → (0 ≤ i57 ∧ i57 ≤ 3) → m60.1 a0 6 = ((v1 : Nat) : Int) → m60.1 v1 7 = v6 → m60.1 a0 3 = ((v11 : Nat) : Int) → m60.1 a0 4 = ((v23 : Nat) : Int) → n53 = (3 - i57).toNat → ex_q (dt_fg L ρ) rc (d + 2, (119, 68, [some (eR a0), some (eI (a1)), some (eI (a2)), some (eI (i55)), some (eI (i35)), some (eI (v50)), some (eI (i57)), o59], []), f :: F, m60) := by
              intro n53
              induction n53 using Nat.strongRecOn with
              | _ n53 ih54 =>
              intro m60 i55 i57 o59 I61 F62 b56 b58 k63 k64 k65 k66 hn67
              refine w_t (np := 70) (l2 := [some (eR a0), some (eI (a1)), some (eI (a2)), some (eI (i55)), some (eI (i35)), some (eI (v50)), some (eI (i57)), o59]) (s2 := [eI (i57)]) rfl rfl rfl ?_
              refine w_t (np := 71) (l2 := [some (eR a0), some (eI (a1)), some (eI (a2)), some (eI (i55)), some (eI (i35)), some (eI (v50)), some (eI (i57)), o59]) (s2 := [eI (3), eI (i57)]) rfl rfl rfl ?_
              refine b_cge (t1 := 152) (t2 := 74) rfl rfl rfl (ev_w_in (by omega) (by omega)) rfl (fun g68 => ?_) (fun g68 => ?_)
              · have b69 : 3 ≤ i57 ∧ i57 ≤ 3 := by omega
                obtain ⟨v69, e70⟩ : ∃ zz : Int, zz = (i35) + (1) := ⟨_, rfl⟩
                have b71 : 1 ≤ v69 ∧ v69 ≤ 890 := by omega
                refine w_t (np := 155) (l2 := [some (eR a0), some (eI (a1)), some (eI (a2)), some (eI (i55)), some (eI (v69)), some (eI (v50)), some (eI (i57)), o59]) (s2 := []) rfl (b_iinc rfl (by rw [← e70]; exact ev_w_in (by omega) (by omega)) rfl) rfl ?_
                refine w_go (t1 := 40) rfl rfl ?_
                exact ih32 (890 - (v69)).toNat (by omega) m60 (i55) (v69) (some (eI (v50))) (some (eI (i57))) (o59) I61 F62 (by omega) (by omega) k63 k64 k65 k66    rfl
              · have b69 : 0 ≤ i57 ∧ i57 ≤ 2 := by omega
                refine w_t (np := 75) (l2 := [some (eR a0), some (eI (a1)), some (eI (a2)), some (eI (i55)), some (eI (i35)), some (eI (v50)), some (eI (i57)), o59]) (s2 := [eR a0]) rfl (s_an rfl (pos_g I61 gA0 (by decide))) rfl ?_
                refine w_gf (np := 78) (v := eR v11) rfl rfl (I61.kd gA0 (by decide) (n := 15) rfl) (by rw [k65]; rfl) ?_
                refine w_t (np := 80) (l2 := [some (eR a0), some (eI (a1)), some (eI (a2)), some (eI (i55)), some (eI (i35)), some (eI (v50)), some (eI (i57)), o59]) (s2 := [eI (v50), eR v11]) rfl rfl rfl ?_
                refine j_al (np := 81) rfl rfl I61 b13 (by decide) (n := 890) rfl rfl (lo := -2147483648) (hi := 2147483647) (fun _ => rfl) (by omega) (by omega) ?_
                intro v69 e70 b71
                refine w_t (np := 82) (l2 := [some (eR a0), some (eI (a1)), some (eI (a2)), some (eI (i55)), some (eI (i35)), some (eI (v50)), some (eI (i57)), o59]) (s2 := [eI (a2), eI (v69)]) rfl rfl rfl ?_
                refine b_cge (t1 := 152) (t2 := 85) rfl rfl rfl (ev_w_in (by omega) (by omega)) (ev_w_in (by omega) (by omega)) (fun g72 => ?_) (fun g72 => ?_)
                · obtain ⟨v73, e74⟩ : ∃ zz : Int, zz = (i35) + (1) := ⟨_, rfl⟩
                  have b75 : 1 ≤ v73 ∧ v73 ≤ 890 := by omega
                  refine w_t (np := 155) (l2 := [some (eR a0), some (eI (a1)), some (eI (a2)), some (eI (i55)), some (eI (v73)), some (eI (v50)), some (eI (i57)), o59]) (s2 := []) rfl (b_iinc rfl (by rw [← e74]; exact ev_w_in (by omega) (by omega)) rfl) rfl ?_
                  refine w_go (t1 := 40) rfl rfl ?_
                  exact ih32 (890 - (v73)).toNat (by omega) m60 (i55) (v73) (some (eI (v50))) (some (eI (i57))) (o59) I61 F62 (by omega) (by omega) k63 k64 k65 k66    rfl
                · have b73 : -2147483648 ≤ v69 ∧ v69 ≤ 2147483646 := by omega
                  have b74 : -2147483647 ≤ a2 ∧ a2 ≤ 2147483647 := by omega
                  refine w_t (np := 86) (l2 := [some (eR a0), some (eI (a1)), some (eI (a2)), some (eI (i55)), some (eI (i35)), some (eI (v50)), some (eI (i57)), o59]) (s2 := [eR a0]) rfl (s_an rfl (pos_g I61 gA0 (by decide))) rfl ?_
                  refine w_t (np := 88) (l2 := [some (eR a0), some (eI (a1)), some (eI (a2)), some (eI (i55)), some (eI (i35)), some (eI (v50)), some (eI (i57)), o59]) (s2 := [eI (v50), eR a0]) rfl rfl rfl ?_
                  refine w_t (np := 90) (l2 := [some (eR a0), some (eI (a1)), some (eI (a2)), some (eI (i55)), some (eI (i35)), some (eI (v50)), some (eI (i57)), o59]) (s2 := [eI (i57), eI (v50), eR a0]) rfl rfl rfl ?_
                  refine w_cw (np := 93) (as := [eI (v50), eI (i57)]) (l2 := [some (eR a0), some (eI (v50)), some (eI (i57)), none]) (rest := []) rfl rfl rfl (Nat.ble_eq.mp rfl) rfl rfl rfl (I61.kd gA0 (by decide) (n := 15) rfl) rfl ?_
                  refine s_116 (a1 := v50) (a2 := i57) I61 gA0 (by omega) (by omega) ?_
                  intro v73 b74
                  show ex_q (dt_fg L ρ) rc (d + 2, (119, 93, [some (eR a0), some (eI (a1)), some (eI (a2)), some (eI (i55)), some (eI (i35)), some (eI (v50)), some (eI (i57)), o59], [eI (v73)]), f :: F, m60)
                  refine w_t (np := 95) (l2 := [some (eR a0), some (eI (a1)), some (eI (a2)), some (eI (i55)), some (eI (i35)), some (eI (v50)), some (eI (i57)), some (eI (v73))]) (s2 := []) rfl rfl rfl ?_
                  refine w_t (np := 97) (l2 := [some (eR a0), some (eI (a1)), some (eI (a2)), some (eI (i55)), some (eI (i35)), some (eI (v50)), some (eI (i57)), some (eI (v73))]) (s2 := [eI (v73)]) rfl rfl rfl ?_
                  refine b_ilt (t1 := 146) (t2 := 100) rfl rfl rfl (ev_w_in (by omega) (by omega)) (fun g75 => ?_) (fun g75 => ?_)
                  · have b76 : -1 ≤ v73 ∧ v73 ≤ -1 := by omega
                    obtain ⟨v76, e77⟩ : ∃ zz : Int, zz = (i57) + (1) := ⟨_, rfl⟩
                    have b78 : 1 ≤ v76 ∧ v76 ≤ 3 := by omega
                    refine w_t (np := 149) (l2 := [some (eR a0), some (eI (a1)), some (eI (a2)), some (eI (i55)), some (eI (i35)), some (eI (v50)), some (eI (v76)), some (eI (v73))]) (s2 := []) rfl (b_iinc rfl (by rw [← e77]; exact ev_w_in (by omega) (by omega)) rfl) rfl ?_
                    refine w_go (t1 := 68) rfl rfl ?_
                    exact ih54 (3 - (v76)).toNat (by omega) m60 (i55) (v76) (some (eI (v73))) I61 F62 (by omega) (by omega) k63 k64 k65 k66    rfl
                  · have b76 : 0 ≤ v73 ∧ v73 ≤ 889 := by omega
                    refine w_t (np := 101) (l2 := [some (eR a0), some (eI (a1)), some (eI (a2)), some (eI (i55)), some (eI (i35)), some (eI (v50)), some (eI (i57)), some (eI (v73))]) (s2 := [eR a0]) rfl (s_an rfl (pos_g I61 gA0 (by decide))) rfl ?_
                    refine w_gf (np := 104) (v := eR v11) rfl rfl (I61.kd gA0 (by decide) (n := 15) rfl) (by rw [k65]; rfl) ?_
                    refine w_t (np := 106) (l2 := [some (eR a0), some (eI (a1)), some (eI (a2)), some (eI (i55)), some (eI (i35)), some (eI (v50)), some (eI (i57)), some (eI (v73))]) (s2 := [eI (v73), eR v11]) rfl rfl rfl ?_
                    refine j_al (np := 107) rfl rfl I61 b13 (by decide) (n := 890) rfl rfl (lo := -2147483648) (hi := 2147483647) (fun _ => rfl) (by omega) (by omega) ?_
                    intro v76 e77 b78
                    refine b_ige (t1 := 146) (t2 := 110) rfl rfl rfl (ev_w_in (by omega) (by omega)) (fun g79 => ?_) (fun g79 => ?_)
                    · have b80 : 0 ≤ v76 ∧ v76 ≤ 2147483647 := by omega
                      obtain ⟨v80, e81⟩ : ∃ zz : Int, zz = (i57) + (1) := ⟨_, rfl⟩
                      have b82 : 1 ≤ v80 ∧ v80 ≤ 3 := by omega
                      refine w_t (np := 149) (l2 := [some (eR a0), some (eI (a1)), some (eI (a2)), some (eI (i55)), some (eI (i35)), some (eI (v50)), some (eI (v80)), some (eI (v73))]) (s2 := []) rfl (b_iinc rfl (by rw [← e81]; exact ev_w_in (by omega) (by omega)) rfl) rfl ?_
                      refine w_go (t1 := 68) rfl rfl ?_
                      exact ih54 (3 - (v80)).toNat (by omega) m60 (i55) (v80) (some (eI (v73))) I61 F62 (by omega) (by omega) k63 k64 k65 k66    rfl
                    · have b80 : -2147483648 ≤ v76 ∧ v76 ≤ -1 := by omega
                      refine w_t (np := 111) (l2 := [some (eR a0), some (eI (a1)), some (eI (a2)), some (eI (i55)), some (eI (i35)), some (eI (v50)), some (eI (i57)), some (eI (v73))]) (s2 := [eI (i55)]) rfl rfl rfl ?_
                      refine w_t (np := 112) (l2 := [some (eR a0), some (eI (a1)), some (eI (a2)), some (eI (i55)), some (eI (i35)), some (eI (v50)), some (eI (i57)), some (eI (v73))]) (s2 := [eR a0, eI (i55)]) rfl (s_an rfl (pos_g I61 gA0 (by decide))) rfl ?_
                      refine w_gf (np := 115) (v := eR v23) rfl rfl (I61.kd gA0 (by decide) (n := 15) rfl) (by rw [k66]; rfl) ?_
                      refine j_len (np := 116) rfl rfl I61 b25 (by decide) (c := 100) (n := 890) rfl rfl rfl ?_
                      rw [show ((890 : Nat) : Int) = 890 from rfl]
                      refine b_cge (t1 := 146) (t2 := 119) rfl rfl rfl (ev_w_in (by omega) (by omega)) rfl (fun g80 => ?_) (fun g80 => ?_)
                      · have b81 : 890 ≤ i55 ∧ i55 ≤ 890 := by omega
                        obtain ⟨v81, e82⟩ : ∃ zz : Int, zz = (i57) + (1) := ⟨_, rfl⟩
                        have b83 : 1 ≤ v81 ∧ v81 ≤ 3 := by omega
                        refine w_t (np := 149) (l2 := [some (eR a0), some (eI (a1)), some (eI (a2)), some (eI (i55)), some (eI (i35)), some (eI (v50)), some (eI (v81)), some (eI (v73))]) (s2 := []) rfl (b_iinc rfl (by rw [← e82]; exact ev_w_in (by omega) (by omega)) rfl) rfl ?_
                        refine w_go (t1 := 68) rfl rfl ?_
                        exact ih54 (3 - (v81)).toNat (by omega) m60 (i55) (v81) (some (eI (v73))) I61 F62 (by omega) (by omega) k63 k64 k65 k66    rfl
                      · have b81 : 0 ≤ i55 ∧ i55 ≤ 889 := by omega
                        refine w_t (np := 120) (l2 := [some (eR a0), some (eI (a1)), some (eI (a2)), some (eI (i55)), some (eI (i35)), some (eI (v50)), some (eI (i57)), some (eI (v73))]) (s2 := [eR a0]) rfl (s_an rfl (pos_g I61 gA0 (by decide))) rfl ?_
                        refine w_gf (np := 123) (v := eR v11) rfl rfl (I61.kd gA0 (by decide) (n := 15) rfl) (by rw [k65]; rfl) ?_
                        refine w_t (np := 125) (l2 := [some (eR a0), some (eI (a1)), some (eI (a2)), some (eI (i55)), some (eI (i35)), some (eI (v50)), some (eI (i57)), some (eI (v73))]) (s2 := [eI (v73), eR v11]) rfl rfl rfl ?_
                        refine w_t (np := 126) (l2 := [some (eR a0), some (eI (a1)), some (eI (a2)), some (eI (i55)), some (eI (i35)), some (eI (v50)), some (eI (i57)), some (eI (v73))]) (s2 := [eR a0, eI (v73), eR v11]) rfl (s_an rfl (pos_g I61 gA0 (by decide))) rfl ?_
                        refine w_gf (np := 129) (v := eR v11) rfl rfl (I61.kd gA0 (by decide) (n := 15) rfl) (by rw [k65]; rfl) ?_
                        refine w_t (np := 131) (l2 := [some (eR a0), some (eI (a1)), some (eI (a2)), some (eI (i55)), some (eI (i35)), some (eI (v50)), some (eI (i57)), some (eI (v73))]) (s2 := [eI (v50), eR v11, eI (v73), eR v11]) rfl rfl rfl ?_
                        refine j_al (np := 132) rfl rfl I61 b13 (by decide) (n := 890) rfl rfl (lo := -2147483648) (hi := 2147483647) (fun _ => rfl) (by omega) (by omega) ?_
                        intro v81 e82 b83
                        have e82 := e82.symm.trans e70
                        rw [e82]
                        refine w_t (np := 133) (l2 := [some (eR a0), some (eI (a1)), some (eI (a2)), some (eI (i55)), some (eI (i35)), some (eI (v50)), some (eI (i57)), some (eI (v73))]) (s2 := [eI (1), eI (v69), eI (v73), eR v11]) rfl rfl rfl ?_
                        obtain ⟨v84, e85⟩ : ∃ zz : Int, zz = (v69) + (1) := ⟨_, rfl⟩
                        have b86 : -2147483647 ≤ v84 ∧ v84 ≤ 2147483647 := by omega
                        refine w_t (np := 134) (l2 := [some (eR a0), some (eI (a1)), some (eI (a2)), some (eI (i55)), some (eI (i35)), some (eI (v50)), some (eI (i57)), some (eI (v73))]) (s2 := [eI (v84), eI (v73), eR v11]) rfl (b_iadd (by rw [← e85]; exact ev_w_in (by omega) (by omega))) rfl ?_
                        refine j_as (np := 135) rfl rfl I61 b13 (by decide) (n := 890) rfl rfl (lo := -2147483648) (hi := 2147483647) (fun _ => rfl) (by omega) (by omega) (by omega) ?_
                        intro m87 I88 W89
                        have F90 : Fr l_119 0 0 g μ m87 := F62.v W89 b13 rfl rfl
                        refine w_t (np := 136) (l2 := [some (eR a0), some (eI (a1)), some (eI (a2)), some (eI (i55)), some (eI (i35)), some (eI (v50)), some (eI (i57)), some (eI (v73))]) (s2 := [eR a0]) rfl (s_an rfl (pos_g I88 gA0 (by decide))) rfl ?_
                        refine w_gf (np := 139) (v := eR v23) rfl rfl (I88.kd gA0 (by decide) (n := 15) rfl) (by rw [(W89.addr k66 b13 gA0 (by decide))]; rfl) ?_
                        refine w_t (np := 140) (l2 := [some (eR a0), some (eI (a1)), some (eI (a2)), some (eI (i55)), some (eI (i35)), some (eI (v50)), some (eI (i57)), some (eI (v73))]) (s2 := [eI (i55), eR v23]) rfl rfl rfl ?_
                        refine w_t (np := 142) (l2 := [some (eR a0), some (eI (a1)), some (eI (a2)), some (eI (i55)), some (eI (i35)), some (eI (v50)), some (eI (i57)), some (eI (v73))]) (s2 := [eI (v73), eI (i55), eR v23]) rfl rfl rfl ?_
                        refine j_as (np := 143) rfl rfl I88 b25 (by decide) (n := 890) rfl rfl (lo := 0) (hi := 889) (fun _ => rfl) (by omega) (by omega) (by omega) ?_
                        intro m91 I92 W93
                        have F94 : Fr l_119 0 0 g μ m91 := F90.v W93 b25 rfl rfl
                        obtain ⟨v95, e96⟩ : ∃ zz : Int, zz = (i55) + (1) := ⟨_, rfl⟩
                        have b97 : 1 ≤ v95 ∧ v95 ≤ 890 := by omega
                        refine w_t (np := 146) (l2 := [some (eR a0), some (eI (a1)), some (eI (a2)), some (eI (v95)), some (eI (i35)), some (eI (v50)), some (eI (i57)), some (eI (v73))]) (s2 := []) rfl (b_iinc rfl (by rw [← e96]; exact ev_w_in (by omega) (by omega)) rfl) rfl ?_
                        obtain ⟨v98, e99⟩ : ∃ zz : Int, zz = (i57) + (1) := ⟨_, rfl⟩
                        have b100 : 1 ≤ v98 ∧ v98 ≤ 3 := by omega
                        refine w_t (np := 149) (l2 := [some (eR a0), some (eI (a1)), some (eI (a2)), some (eI (v95)), some (eI (i35)), some (eI (v50)), some (eI (v98)), some (eI (v73))]) (s2 := []) rfl (b_iinc rfl (by rw [← e99]; exact ev_w_in (by omega) (by omega)) rfl) rfl ?_
                        refine w_go (t1 := 68) rfl rfl ?_
                        exact ih54 (3 - (v98)).toNat (by omega) m91 (v95) (v98) (some (eI (v73))) I92 F94 (by omega) (by omega) (W93.addr (W89.addr k63 b13 gA0 (by decide)) b25 gA0 (by decide)) (W93.addr (W89.addr k64 b13 b3 (by decide)) b25 b3 (by decide)) (W93.addr (W89.addr k65 b13 gA0 (by decide)) b25 gA0 (by decide)) (W93.addr (W89.addr k66 b13 gA0 (by decide)) b25 gA0 (by decide))    rfl
            exact hL68 _ m40 (i33) (0) (o39) I41 F42 (by omega) (by decide) k43 k44 k45 k46    rfl
        exact hL40 _ m27 (1) (0) (none) (none) (none) I28 F30 (by decide) (by decide) (W29.addr (W21.addr (F17.k e2 gA0 (by decide) rfl) b13 gA0 (by decide)) b25 gA0 (by decide)) (W29.addr (W21.addr (F17.k e7 b3 (by decide) rfl) b13 b3 (by decide)) b25 b3 (by decide)) (W29.addr (W21.addr (F17.k e12 gA0 (by decide) rfl) b13 gA0 (by decide)) b25 gA0 (by decide)) (W29.addr e24 b25 gA0 (by decide))    rfl
      · refine w_t (np := 13) (l2 := [some (eR v1), some (eI (a1))]) (s2 := [eI (1)]) rfl rfl rfl ?_
        refine w_go (t1 := 17) rfl rfl ?_
        refine b_rz rfl rfl (Or.inr rfl) ?_
        show ex_q (dt_fg L ρ) rc (d + 2, (119, 8, [some (eR a0), some (eI (a1)), some (eI (a2)), none, none, none, none, none], [eI (1)]), f :: F, μ)
        refine b_ieq (t1 := 13) (t2 := 11) rfl rfl rfl rfl (fun g10 => absurd g10 (by decide)) (fun g10 => ?_)
        refine w_t (np := 12) (l2 := [some (eR a0), some (eI (a1)), some (eI (a2)), none, none, none, none, none]) (s2 := [eI (0)]) rfl rfl rfl ?_
        exact b_ri rfl rfl (K μ (0) hI F0 (by decide))
  · refine w_t (np := 5) (l2 := [some (eR a0), some (eI (a1)), some (eI (a2)), none, none, none, none, none]) (s2 := [eI (a1), eR v1]) rfl rfl rfl ?_
    refine w_cw (np := 8) (as := [eI (a1)]) (l2 := [some (eR v1), some (eI (a1))]) (rest := []) rfl rfl rfl (Nat.ble_eq.mp rfl) rfl rfl rfl (hI.kd b3 (by decide) (n := 8) rfl) rfl ?_
    refine w_t (np := 1) (l2 := [some (eR v1), some (eI (a1))]) (s2 := [eI (a1)]) rfl rfl rfl ?_
    refine b_ilt (t1 := 12) (t2 := 4) rfl rfl rfl (ev_w_in (by omega) (by omega)) (fun g5 => ?_) (fun g5 => ?_)
    · have b6 : -2147483648 ≤ a1 ∧ a1 ≤ -1 := by omega
      refine w_t (np := 13) (l2 := [some (eR v1), some (eI (a1))]) (s2 := [eI (1)]) rfl rfl rfl ?_
      refine w_go (t1 := 17) rfl rfl ?_
      refine b_rz rfl rfl (Or.inr rfl) ?_
      show ex_q (dt_fg L ρ) rc (d + 2, (119, 8, [some (eR a0), some (eI (a1)), some (eI (a2)), none, none, none, none, none], [eI (1)]), f :: F, μ)
      refine b_ieq (t1 := 13) (t2 := 11) rfl rfl rfl rfl (fun g6 => absurd g6 (by decide)) (fun g6 => ?_)
      refine w_t (np := 12) (l2 := [some (eR a0), some (eI (a1)), some (eI (a2)), none, none, none, none, none]) (s2 := [eI (0)]) rfl rfl rfl ?_
      exact b_ri rfl rfl (K μ (0) hI F0 (by decide))
    · have b6 : 0 ≤ a1 ∧ a1 ≤ 2147483647 := by omega
      refine w_t (np := 5) (l2 := [some (eR v1), some (eI (a1))]) (s2 := [eI (a1)]) rfl rfl rfl ?_
      refine w_t (np := 6) (l2 := [some (eR v1), some (eI (a1))]) (s2 := [eR v1, eI (a1)]) rfl (s_an rfl (pos_g hI b3 (by decide))) rfl ?_
      refine j_gi (np := 9) rfl rfl rfl hI b3 (by decide) (n := 8) rfl rfl (lo := 0) (hi := 890) rfl ?_
      intro v6 e7 b8
      refine b_clt (t1 := 16) (t2 := 12) rfl rfl rfl (ev_w_in (by omega) (by omega)) (ev_w_in (by omega) (by omega)) (fun g9 => ?_) (fun g9 => ?_)
      · have b10 : 0 ≤ a1 ∧ a1 ≤ 889 := by omega
        have b11 : 1 ≤ v6 ∧ v6 ≤ 890 := by omega
        refine w_t (np := 17) (l2 := [some (eR v1), some (eI (a1))]) (s2 := [eI (0)]) rfl rfl rfl ?_
        refine b_rz rfl rfl (Or.inl rfl) ?_
        show ex_q (dt_fg L ρ) rc (d + 2, (119, 8, [some (eR a0), some (eI (a1)), some (eI (a2)), none, none, none, none, none], [eI (0)]), f :: F, μ)
        refine b_ieq (t1 := 13) (t2 := 11) rfl rfl rfl rfl (fun g10 => ?_) (fun g10 => absurd g10 (by decide))
        refine w_t (np := 14) (l2 := [some (eR a0), some (eI (a1)), some (eI (a2)), none, none, none, none, none]) (s2 := [eR a0]) rfl (s_an rfl (pos_g hI gA0 (by decide))) rfl ?_
        refine j_gr (np := 17) rfl rfl hI gA0 (by decide) (n := 15) rfl rfl rfl ?_
        intro v11 e12 b13 z14
        have b13 : g v11 = 39 := Nat.eq_of_beq_eq_true b13
        refine w_t (np := 18) (l2 := [some (eR a0), some (eI (a1)), some (eI (a2)), none, none, none, none, none]) (s2 := [eI (-1), eR v11]) rfl rfl rfl ?_
        refine w_cu (np := 21) (as := [eR v11, eI (-1)]) (l2 := [some (eR v11), some (eI (-1)), none, none]) (rest := []) rfl rfl rfl (Nat.ble_eq.mp rfl) rfl rfl rfl rfl ?_
        refine s_365_4 (a1 := -1) hI b13 (by decide) ?_
        intro m15 I16 F17
        have F18 : Fr l_119 0 0 g μ m15 := F0.t F17 rfl
        show ex_q (dt_fg L ρ) rc (d + 2, (119, 21, [some (eR a0), some (eI (a1)), some (eI (a2)), none, none, none, none, none], []), f :: F, m15)
        refine w_t (np := 22) (l2 := [some (eR a0), some (eI (a1)), some (eI (a2)), none, none, none, none, none]) (s2 := [eR a0]) rfl (s_an rfl (pos_g I16 gA0 (by decide))) rfl ?_
        refine w_gf (np := 25) (v := eR v11) rfl rfl (I16.kd gA0 (by decide) (n := 15) rfl) (by rw [(F17.k e12 gA0 (by decide) rfl)]; rfl) ?_
        refine w_t (np := 26) (l2 := [some (eR a0), some (eI (a1)), some (eI (a2)), none, none, none, none, none]) (s2 := [eI (a1), eR v11]) rfl rfl rfl ?_
        refine w_t (np := 27) (l2 := [some (eR a0), some (eI (a1)), some (eI (a2)), none, none, none, none, none]) (s2 := [eI (0), eI (a1), eR v11]) rfl rfl rfl ?_
        refine j_as (np := 28) rfl rfl I16 b13 (by decide) (n := 890) rfl rfl (lo := -2147483648) (hi := 2147483647) (fun _ => rfl) (by omega) (by omega) (by decide) ?_
        intro m19 I20 W21
        have F22 : Fr l_119 0 0 g μ m19 := F18.v W21 b13 rfl rfl
        refine w_t (np := 29) (l2 := [some (eR a0), some (eI (a1)), some (eI (a2)), none, none, none, none, none]) (s2 := [eR a0]) rfl (s_an rfl (pos_g I20 gA0 (by decide))) rfl ?_
        refine j_gr (np := 32) rfl rfl I20 gA0 (by decide) (n := 15) rfl rfl rfl ?_
        intro v23 e24 b25 z26
        have b25 : g v23 = 40 := Nat.eq_of_beq_eq_true b25
        refine w_t (np := 33) (l2 := [some (eR a0), some (eI (a1)), some (eI (a2)), none, none, none, none, none]) (s2 := [eI (0), eR v23]) rfl rfl rfl ?_
        refine w_t (np := 34) (l2 := [some (eR a0), some (eI (a1)), some (eI (a2)), none, none, none, none, none]) (s2 := [eI (a1), eI (0), eR v23]) rfl rfl rfl ?_
        refine j_as (np := 35) rfl rfl I20 b25 (by decide) (n := 890) rfl rfl (lo := 0) (hi := 889) (fun _ => rfl) (by decide) (by decide) (by omega) ?_
        intro m27 I28 W29
        have F30 : Fr l_119 0 0 g μ m27 := F22.v W29 b25 rfl rfl
        refine w_t (np := 36) (l2 := [some (eR a0), some (eI (a1)), some (eI (a2)), none, none, none, none, none]) (s2 := [eI (1)]) rfl rfl rfl ?_
        refine w_t (np := 37) (l2 := [some (eR a0), some (eI (a1)), some (eI (a2)), some (eI (1)), none, none, none, none]) (s2 := []) rfl rfl rfl ?_
        refine w_t (np := 38) (l2 := [some (eR a0), some (eI (a1)), some (eI (a2)), some (eI (1)), none, none, none, none]) (s2 := [eI (0)]) rfl rfl rfl ?_
        refine w_t (np := 40) (l2 := [some (eR a0), some (eI (a1)), some (eI (a2)), some (eI (1)), some (eI (0)), none, none, none]) (s2 := []) rfl rfl rfl ?_
        have hL40 : ∀ (n31 : Nat) (m40 : eM) (i33 : Int) (i35 : Int) (o37 : Option eV) (o38 : Option eV) (o39 : Option eV), SI g m40 → Fr l_119 0 0 g μ m40 → (0 ≤ i33 ∧ i33 ≤ 890) → (0 ≤ i35 ∧ i35 ≤ 890) → m40.1 a0 6 = ((v1 : Nat) : Int) → m40.1 v1 7 = v6 → m40.1 a0 3 = ((v11 : Nat) : Int) → m40.1 a0 4 = ((v23 : Nat) : Int) → n31 = (890 - i35).toNat → ex_q (dt_fg L ρ) rc (d + 2, (119, 40, [some (eR a0), some (eI (a1)), some (eI (a2)), some (eI (i33)), some (eI (i35)), o37, o38, o39], []), f :: F, m40) := by
          intro n31
          induction n31 using Nat.strongRecOn with
          | _ n31 ih32 =>
          intro m40 i33 i35 o37 o38 o39 I41 F42 b34 b36 k43 k44 k45 k46 hn47
          refine w_t (np := 42) (l2 := [some (eR a0), some (eI (a1)), some (eI (a2)), some (eI (i33)), some (eI (i35)), o37, o38, o39]) (s2 := [eI (i35)]) rfl rfl rfl ?_
          refine w_t (np := 43) (l2 := [some (eR a0), some (eI (a1)), some (eI (a2)), some (eI (i33)), some (eI (i35)), o37, o38, o39]) (s2 := [eI (i33), eI (i35)]) rfl rfl rfl ?_
          refine b_cge (t1 := 158) (t2 := 46) rfl rfl rfl (ev_w_in (by omega) (by omega)) (ev_w_in (by omega) (by omega)) (fun g48 => ?_) (fun g48 => ?_)
          · refine w_t (np := 159) (l2 := [some (eR a0), some (eI (a1)), some (eI (a2)), some (eI (i33)), some (eI (i35)), o37, o38, o39]) (s2 := [eI (i33)]) rfl rfl rfl ?_
            exact b_ri rfl rfl (K m40 (i33) I41 F42 (by omega))
          · have b49 : 0 ≤ i35 ∧ i35 ≤ 889 := by omega
            have b50 : 1 ≤ i33 ∧ i33 ≤ 890 := by omega
            refine w_t (np := 48) (l2 := [some (eR a0), some (eI (a1)), some (eI (a2)), some (eI (i33)), some (eI (i35)), o37, o38, o39]) (s2 := [eI (i35)]) rfl rfl rfl ?_
            refine w_t (np := 49) (l2 := [some (eR a0), some (eI (a1)), some (eI (a2)), some (eI (i33)), some (eI (i35)), o37, o38, o39]) (s2 := [eR a0, eI (i35)]) rfl (s_an rfl (pos_g I41 gA0 (by decide))) rfl ?_
            refine w_gf (np := 52) (v := eR v23) rfl rfl (I41.kd gA0 (by decide) (n := 15) rfl) (by rw [k46]; rfl) ?_
            refine j_len (np := 53) rfl rfl I41 b25 (by decide) (c := 100) (n := 890) rfl rfl rfl ?_
            rw [show ((890 : Nat) : Int) = 890 from rfl]
            refine b_cge (t1 := 158) (t2 := 56) rfl rfl rfl (ev_w_in (by omega) (by omega)) rfl (fun g49 => False.elim (by omega)) (fun g49 => ?_)
            refine w_t (np := 57) (l2 := [some (eR a0), some (eI (a1)), some (eI (a2)), some (eI (i33)), some (eI (i35)), o37, o38, o39]) (s2 := [eR a0]) rfl (s_an rfl (pos_g I41 gA0 (by decide))) rfl ?_
            refine w_gf (np := 60) (v := eR v23) rfl rfl (I41.kd gA0 (by decide) (n := 15) rfl) (by rw [k46]; rfl) ?_
            refine w_t (np := 62) (l2 := [some (eR a0), some (eI (a1)), some (eI (a2)), some (eI (i33)), some (eI (i35)), o37, o38, o39]) (s2 := [eI (i35), eR v23]) rfl rfl rfl ?_
            refine j_al (np := 63) rfl rfl I41 b25 (by decide) (n := 890) rfl rfl (lo := 0) (hi := 889) (fun _ => rfl) (by omega) (by omega) ?_
            intro v50 e51 b52
            refine w_t (np := 65) (l2 := [some (eR a0), some (eI (a1)), some (eI (a2)), some (eI (i33)), some (eI (i35)), some (eI (v50)), o38, o39]) (s2 := []) rfl rfl rfl ?_
            refine w_t (np := 66) (l2 := [some (eR a0), some (eI (a1)), some (eI (a2)), some (eI (i33)), some (eI (i35)), some (eI (v50)), o38, o39]) (s2 := [eI (0)]) rfl rfl rfl ?_
            refine w_t (np := 68) (l2 := [some (eR a0), some (eI (a1)), some (eI (a2)), some (eI (i33)), some (eI (i35)), some (eI (v50)), some (eI (0)), o39]) (s2 := []) rfl rfl rfl ?_
            have hL68 : ∀ (n53 : Nat) (m60 : eM) (i55 : Int) (i57 : Int) (o59 : Option eV), SI g m60 → Fr l_119 0 0 g μ m60 → (0 ≤ i55 ∧ i55 ≤ 890) → (0 ≤ i57 ∧ i57 ≤ 3) → m60.1 a0 6 = ((v1 : Nat) : Int) → m60.1 v1 7 = v6 → m60.1 a0 3 = ((v11 : Nat) : Int) → m60.1 a0 4 = ((v23 : Nat) : Int) → n53 = (3 - i57).toNat → ex_q (dt_fg L ρ) rc (d + 2, (119, 68, [some (eR a0), some (eI (a1)), some (eI (a2)), some (eI (i55)), some (eI (i35)), some (eI (v50)), some (eI (i57)), o59], []), f :: F, m60) := by
              intro n53
              induction n53 using Nat.strongRecOn with
              | _ n53 ih54 =>
              intro m60 i55 i57 o59 I61 F62 b56 b58 k63 k64 k65 k66 hn67
              refine w_t (np := 70) (l2 := [some (eR a0), some (eI (a1)), some (eI (a2)), some (eI (i55)), some (eI (i35)), some (eI (v50)), some (eI (i57)), o59]) (s2 := [eI (i57)]) rfl rfl rfl ?_
              refine w_t (np := 71) (l2 := [some (eR a0), some (eI (a1)), some (eI (a2)), some (eI (i55)), some (eI (i35)), some (eI (v50)), some (eI (i57)), o59]) (s2 := [eI (3), eI (i57)]) rfl rfl rfl ?_
              refine b_cge (t1 := 152) (t2 := 74) rfl rfl rfl (ev_w_in (by omega) (by omega)) rfl (fun g68 => ?_) (fun g68 => ?_)
              · have b69 : 3 ≤ i57 ∧ i57 ≤ 3 := by omega
                obtain ⟨v69, e70⟩ : ∃ zz : Int, zz = (i35) + (1) := ⟨_, rfl⟩
                have b71 : 1 ≤ v69 ∧ v69 ≤ 890 := by omega
                refine w_t (np := 155) (l2 := [some (eR a0), some (eI (a1)), some (eI (a2)), some (eI (i55)), some (eI (v69)), some (eI (v50)), some (eI (i57)), o59]) (s2 := []) rfl (b_iinc rfl (by rw [← e70]; exact ev_w_in (by omega) (by omega)) rfl) rfl ?_
                refine w_go (t1 := 40) rfl rfl ?_
                exact ih32 (890 - (v69)).toNat (by omega) m60 (i55) (v69) (some (eI (v50))) (some (eI (i57))) (o59) I61 F62 (by omega) (by omega) k63 k64 k65 k66    rfl
              · have b69 : 0 ≤ i57 ∧ i57 ≤ 2 := by omega
                refine w_t (np := 75) (l2 := [some (eR a0), some (eI (a1)), some (eI (a2)), some (eI (i55)), some (eI (i35)), some (eI (v50)), some (eI (i57)), o59]) (s2 := [eR a0]) rfl (s_an rfl (pos_g I61 gA0 (by decide))) rfl ?_
                refine w_gf (np := 78) (v := eR v11) rfl rfl (I61.kd gA0 (by decide) (n := 15) rfl) (by rw [k65]; rfl) ?_
                refine w_t (np := 80) (l2 := [some (eR a0), some (eI (a1)), some (eI (a2)), some (eI (i55)), some (eI (i35)), some (eI (v50)), some (eI (i57)), o59]) (s2 := [eI (v50), eR v11]) rfl rfl rfl ?_
                refine j_al (np := 81) rfl rfl I61 b13 (by decide) (n := 890) rfl rfl (lo := -2147483648) (hi := 2147483647) (fun _ => rfl) (by omega) (by omega) ?_
                intro v69 e70 b71
                refine w_t (np := 82) (l2 := [some (eR a0), some (eI (a1)), some (eI (a2)), some (eI (i55)), some (eI (i35)), some (eI (v50)), some (eI (i57)), o59]) (s2 := [eI (a2), eI (v69)]) rfl rfl rfl ?_
                refine b_cge (t1 := 152) (t2 := 85) rfl rfl rfl (ev_w_in (by omega) (by omega)) (ev_w_in (by omega) (by omega)) (fun g72 => ?_) (fun g72 => ?_)
                · obtain ⟨v73, e74⟩ : ∃ zz : Int, zz = (i35) + (1) := ⟨_, rfl⟩
                  have b75 : 1 ≤ v73 ∧ v73 ≤ 890 := by omega
                  refine w_t (np := 155) (l2 := [some (eR a0), some (eI (a1)), some (eI (a2)), some (eI (i55)), some (eI (v73)), some (eI (v50)), some (eI (i57)), o59]) (s2 := []) rfl (b_iinc rfl (by rw [← e74]; exact ev_w_in (by omega) (by omega)) rfl) rfl ?_
                  refine w_go (t1 := 40) rfl rfl ?_
                  exact ih32 (890 - (v73)).toNat (by omega) m60 (i55) (v73) (some (eI (v50))) (some (eI (i57))) (o59) I61 F62 (by omega) (by omega) k63 k64 k65 k66    rfl
                · have b73 : -2147483648 ≤ v69 ∧ v69 ≤ 2147483646 := by omega
                  have b74 : -2147483647 ≤ a2 ∧ a2 ≤ 2147483647 := by omega
                  refine w_t (np := 86) (l2 := [some (eR a0), some (eI (a1)), some (eI (a2)), some (eI (i55)), some (eI (i35)), some (eI (v50)), some (eI (i57)), o59]) (s2 := [eR a0]) rfl (s_an rfl (pos_g I61 gA0 (by decide))) rfl ?_
                  refine w_t (np := 88) (l2 := [some (eR a0), some (eI (a1)), some (eI (a2)), some (eI (i55)), some (eI (i35)), some (eI (v50)), some (eI (i57)), o59]) (s2 := [eI (v50), eR a0]) rfl rfl rfl ?_
                  refine w_t (np := 90) (l2 := [some (eR a0), some (eI (a1)), some (eI (a2)), some (eI (i55)), some (eI (i35)), some (eI (v50)), some (eI (i57)), o59]) (s2 := [eI (i57), eI (v50), eR a0]) rfl rfl rfl ?_
                  refine w_cw (np := 93) (as := [eI (v50), eI (i57)]) (l2 := [some (eR a0), some (eI (v50)), some (eI (i57)), none]) (rest := []) rfl rfl rfl (Nat.ble_eq.mp rfl) rfl rfl rfl (I61.kd gA0 (by decide) (n := 15) rfl) rfl ?_
                  refine s_116 (a1 := v50) (a2 := i57) I61 gA0 (by omega) (by omega) ?_
                  intro v73 b74
                  show ex_q (dt_fg L ρ) rc (d + 2, (119, 93, [some (eR a0), some (eI (a1)), some (eI (a2)), some (eI (i55)), some (eI (i35)), some (eI (v50)), some (eI (i57)), o59], [eI (v73)]), f :: F, m60)
                  refine w_t (np := 95) (l2 := [some (eR a0), some (eI (a1)), some (eI (a2)), some (eI (i55)), some (eI (i35)), some (eI (v50)), some (eI (i57)), some (eI (v73))]) (s2 := []) rfl rfl rfl ?_
                  refine w_t (np := 97) (l2 := [some (eR a0), some (eI (a1)), some (eI (a2)), some (eI (i55)), some (eI (i35)), some (eI (v50)), some (eI (i57)), some (eI (v73))]) (s2 := [eI (v73)]) rfl rfl rfl ?_
                  refine b_ilt (t1 := 146) (t2 := 100) rfl rfl rfl (ev_w_in (by omega) (by omega)) (fun g75 => ?_) (fun g75 => ?_)
                  · have b76 : -1 ≤ v73 ∧ v73 ≤ -1 := by omega
                    obtain ⟨v76, e77⟩ : ∃ zz : Int, zz = (i57) + (1) := ⟨_, rfl⟩
                    have b78 : 1 ≤ v76 ∧ v76 ≤ 3 := by omega
                    refine w_t (np := 149) (l2 := [some (eR a0), some (eI (a1)), some (eI (a2)), some (eI (i55)), some (eI (i35)), some (eI (v50)), some (eI (v76)), some (eI (v73))]) (s2 := []) rfl (b_iinc rfl (by rw [← e77]; exact ev_w_in (by omega) (by omega)) rfl) rfl ?_
                    refine w_go (t1 := 68) rfl rfl ?_
                    exact ih54 (3 - (v76)).toNat (by omega) m60 (i55) (v76) (some (eI (v73))) I61 F62 (by omega) (by omega) k63 k64 k65 k66    rfl
                  · have b76 : 0 ≤ v73 ∧ v73 ≤ 889 := by omega
                    refine w_t (np := 101) (l2 := [some (eR a0), some (eI (a1)), some (eI (a2)), some (eI (i55)), some (eI (i35)), some (eI (v50)), some (eI (i57)), some (eI (v73))]) (s2 := [eR a0]) rfl (s_an rfl (pos_g I61 gA0 (by decide))) rfl ?_
                    refine w_gf (np := 104) (v := eR v11) rfl rfl (I61.kd gA0 (by decide) (n := 15) rfl) (by rw [k65]; rfl) ?_
                    refine w_t (np := 106) (l2 := [some (eR a0), some (eI (a1)), some (eI (a2)), some (eI (i55)), some (eI (i35)), some (eI (v50)), some (eI (i57)), some (eI (v73))]) (s2 := [eI (v73), eR v11]) rfl rfl rfl ?_
                    refine j_al (np := 107) rfl rfl I61 b13 (by decide) (n := 890) rfl rfl (lo := -2147483648) (hi := 2147483647) (fun _ => rfl) (by omega) (by omega) ?_
                    intro v76 e77 b78
                    refine b_ige (t1 := 146) (t2 := 110) rfl rfl rfl (ev_w_in (by omega) (by omega)) (fun g79 => ?_) (fun g79 => ?_)
                    · have b80 : 0 ≤ v76 ∧ v76 ≤ 2147483647 := by omega
                      obtain ⟨v80, e81⟩ : ∃ zz : Int, zz = (i57) + (1) := ⟨_, rfl⟩
                      have b82 : 1 ≤ v80 ∧ v80 ≤ 3 := by omega
                      refine w_t (np := 149) (l2 := [some (eR a0), some (eI (a1)), some (eI (a2)), some (eI (i55)), some (eI (i35)), some (eI (v50)), some (eI (v80)), some (eI (v73))]) (s2 := []) rfl (b_iinc rfl (by rw [← e81]; exact ev_w_in (by omega) (by omega)) rfl) rfl ?_
                      refine w_go (t1 := 68) rfl rfl ?_
                      exact ih54 (3 - (v80)).toNat (by omega) m60 (i55) (v80) (some (eI (v73))) I61 F62 (by omega) (by omega) k63 k64 k65 k66    rfl
                    · have b80 : -2147483648 ≤ v76 ∧ v76 ≤ -1 := by omega
                      refine w_t (np := 111) (l2 := [some (eR a0), some (eI (a1)), some (eI (a2)), some (eI (i55)), some (eI (i35)), some (eI (v50)), some (eI (i57)), some (eI (v73))]) (s2 := [eI (i55)]) rfl rfl rfl ?_
                      refine w_t (np := 112) (l2 := [some (eR a0), some (eI (a1)), some (eI (a2)), some (eI (i55)), some (eI (i35)), some (eI (v50)), some (eI (i57)), some (eI (v73))]) (s2 := [eR a0, eI (i55)]) rfl (s_an rfl (pos_g I61 gA0 (by decide))) rfl ?_
                      refine w_gf (np := 115) (v := eR v23) rfl rfl (I61.kd gA0 (by decide) (n := 15) rfl) (by rw [k66]; rfl) ?_
                      refine j_len (np := 116) rfl rfl I61 b25 (by decide) (c := 100) (n := 890) rfl rfl rfl ?_
                      rw [show ((890 : Nat) : Int) = 890 from rfl]
                      refine b_cge (t1 := 146) (t2 := 119) rfl rfl rfl (ev_w_in (by omega) (by omega)) rfl (fun g80 => ?_) (fun g80 => ?_)
                      · have b81 : 890 ≤ i55 ∧ i55 ≤ 890 := by omega
                        obtain ⟨v81, e82⟩ : ∃ zz : Int, zz = (i57) + (1) := ⟨_, rfl⟩
                        have b83 : 1 ≤ v81 ∧ v81 ≤ 3 := by omega
                        refine w_t (np := 149) (l2 := [some (eR a0), some (eI (a1)), some (eI (a2)), some (eI (i55)), some (eI (i35)), some (eI (v50)), some (eI (v81)), some (eI (v73))]) (s2 := []) rfl (b_iinc rfl (by rw [← e82]; exact ev_w_in (by omega) (by omega)) rfl) rfl ?_
                        refine w_go (t1 := 68) rfl rfl ?_
                        exact ih54 (3 - (v81)).toNat (by omega) m60 (i55) (v81) (some (eI (v73))) I61 F62 (by omega) (by omega) k63 k64 k65 k66    rfl
                      · have b81 : 0 ≤ i55 ∧ i55 ≤ 889 := by omega
                        refine w_t (np := 120) (l2 := [some (eR a0), some (eI (a1)), some (eI (a2)), some (eI (i55)), some (eI (i35)), some (eI (v50)), some (eI (i57)), some (eI (v73))]) (s2 := [eR a0]) rfl (s_an rfl (pos_g I61 gA0 (by decide))) rfl ?_
                        refine w_gf (np := 123) (v := eR v11) rfl rfl (I61.kd gA0 (by decide) (n := 15) rfl) (by rw [k65]; rfl) ?_
                        refine w_t (np := 125) (l2 := [some (eR a0), some (eI (a1)), some (eI (a2)), some (eI (i55)), some (eI (i35)), some (eI (v50)), some (eI (i57)), some (eI (v73))]) (s2 := [eI (v73), eR v11]) rfl rfl rfl ?_
                        refine w_t (np := 126) (l2 := [some (eR a0), some (eI (a1)), some (eI (a2)), some (eI (i55)), some (eI (i35)), some (eI (v50)), some (eI (i57)), some (eI (v73))]) (s2 := [eR a0, eI (v73), eR v11]) rfl (s_an rfl (pos_g I61 gA0 (by decide))) rfl ?_
                        refine w_gf (np := 129) (v := eR v11) rfl rfl (I61.kd gA0 (by decide) (n := 15) rfl) (by rw [k65]; rfl) ?_
                        refine w_t (np := 131) (l2 := [some (eR a0), some (eI (a1)), some (eI (a2)), some (eI (i55)), some (eI (i35)), some (eI (v50)), some (eI (i57)), some (eI (v73))]) (s2 := [eI (v50), eR v11, eI (v73), eR v11]) rfl rfl rfl ?_
                        refine j_al (np := 132) rfl rfl I61 b13 (by decide) (n := 890) rfl rfl (lo := -2147483648) (hi := 2147483647) (fun _ => rfl) (by omega) (by omega) ?_
                        intro v81 e82 b83
                        have e82 := e82.symm.trans e70
                        rw [e82]
                        refine w_t (np := 133) (l2 := [some (eR a0), some (eI (a1)), some (eI (a2)), some (eI (i55)), some (eI (i35)), some (eI (v50)), some (eI (i57)), some (eI (v73))]) (s2 := [eI (1), eI (v69), eI (v73), eR v11]) rfl rfl rfl ?_
                        obtain ⟨v84, e85⟩ : ∃ zz : Int, zz = (v69) + (1) := ⟨_, rfl⟩
                        have b86 : -2147483647 ≤ v84 ∧ v84 ≤ 2147483647 := by omega
                        refine w_t (np := 134) (l2 := [some (eR a0), some (eI (a1)), some (eI (a2)), some (eI (i55)), some (eI (i35)), some (eI (v50)), some (eI (i57)), some (eI (v73))]) (s2 := [eI (v84), eI (v73), eR v11]) rfl (b_iadd (by rw [← e85]; exact ev_w_in (by omega) (by omega))) rfl ?_
                        refine j_as (np := 135) rfl rfl I61 b13 (by decide) (n := 890) rfl rfl (lo := -2147483648) (hi := 2147483647) (fun _ => rfl) (by omega) (by omega) (by omega) ?_
                        intro m87 I88 W89
                        have F90 : Fr l_119 0 0 g μ m87 := F62.v W89 b13 rfl rfl
                        refine w_t (np := 136) (l2 := [some (eR a0), some (eI (a1)), some (eI (a2)), some (eI (i55)), some (eI (i35)), some (eI (v50)), some (eI (i57)), some (eI (v73))]) (s2 := [eR a0]) rfl (s_an rfl (pos_g I88 gA0 (by decide))) rfl ?_
                        refine w_gf (np := 139) (v := eR v23) rfl rfl (I88.kd gA0 (by decide) (n := 15) rfl) (by rw [(W89.addr k66 b13 gA0 (by decide))]; rfl) ?_
                        refine w_t (np := 140) (l2 := [some (eR a0), some (eI (a1)), some (eI (a2)), some (eI (i55)), some (eI (i35)), some (eI (v50)), some (eI (i57)), some (eI (v73))]) (s2 := [eI (i55), eR v23]) rfl rfl rfl ?_
                        refine w_t (np := 142) (l2 := [some (eR a0), some (eI (a1)), some (eI (a2)), some (eI (i55)), some (eI (i35)), some (eI (v50)), some (eI (i57)), some (eI (v73))]) (s2 := [eI (v73), eI (i55), eR v23]) rfl rfl rfl ?_
                        refine j_as (np := 143) rfl rfl I88 b25 (by decide) (n := 890) rfl rfl (lo := 0) (hi := 889) (fun _ => rfl) (by omega) (by omega) (by omega) ?_
                        intro m91 I92 W93
                        have F94 : Fr l_119 0 0 g μ m91 := F90.v W93 b25 rfl rfl
                        obtain ⟨v95, e96⟩ : ∃ zz : Int, zz = (i55) + (1) := ⟨_, rfl⟩
                        have b97 : 1 ≤ v95 ∧ v95 ≤ 890 := by omega
                        refine w_t (np := 146) (l2 := [some (eR a0), some (eI (a1)), some (eI (a2)), some (eI (v95)), some (eI (i35)), some (eI (v50)), some (eI (i57)), some (eI (v73))]) (s2 := []) rfl (b_iinc rfl (by rw [← e96]; exact ev_w_in (by omega) (by omega)) rfl) rfl ?_
                        obtain ⟨v98, e99⟩ : ∃ zz : Int, zz = (i57) + (1) := ⟨_, rfl⟩
                        have b100 : 1 ≤ v98 ∧ v98 ≤ 3 := by omega
                        refine w_t (np := 149) (l2 := [some (eR a0), some (eI (a1)), some (eI (a2)), some (eI (v95)), some (eI (i35)), some (eI (v50)), some (eI (v98)), some (eI (v73))]) (s2 := []) rfl (b_iinc rfl (by rw [← e99]; exact ev_w_in (by omega) (by omega)) rfl) rfl ?_
                        refine w_go (t1 := 68) rfl rfl ?_
                        exact ih54 (3 - (v98)).toNat (by omega) m91 (v95) (v98) (some (eI (v73))) I92 F94 (by omega) (by omega) (W93.addr (W89.addr k63 b13 gA0 (by decide)) b25 gA0 (by decide)) (W93.addr (W89.addr k64 b13 b3 (by decide)) b25 b3 (by decide)) (W93.addr (W89.addr k65 b13 gA0 (by decide)) b25 gA0 (by decide)) (W93.addr (W89.addr k66 b13 gA0 (by decide)) b25 gA0 (by decide))    rfl
            exact hL68 _ m40 (i33) (0) (o39) I41 F42 (by omega) (by decide) k43 k44 k45 k46    rfl
        exact hL40 _ m27 (1) (0) (none) (none) (none) I28 F30 (by decide) (by decide) (W29.addr (W21.addr (F17.k e2 gA0 (by decide) rfl) b13 gA0 (by decide)) b25 gA0 (by decide)) (W29.addr (W21.addr (F17.k e7 b3 (by decide) rfl) b13 b3 (by decide)) b25 b3 (by decide)) (W29.addr (W21.addr (F17.k e12 gA0 (by decide) rfl) b13 gA0 (by decide)) b25 gA0 (by decide)) (W29.addr e24 b25 gA0 (by decide))    rfl
      · refine w_t (np := 13) (l2 := [some (eR v1), some (eI (a1))]) (s2 := [eI (1)]) rfl rfl rfl ?_
        refine w_go (t1 := 17) rfl rfl ?_
        refine b_rz rfl rfl (Or.inr rfl) ?_
        show ex_q (dt_fg L ρ) rc (d + 2, (119, 8, [some (eR a0), some (eI (a1)), some (eI (a2)), none, none, none, none, none], [eI (1)]), f :: F, μ)
        refine b_ieq (t1 := 13) (t2 := 11) rfl rfl rfl rfl (fun g10 => absurd g10 (by decide)) (fun g10 => ?_)
        refine w_t (np := 12) (l2 := [some (eR a0), some (eI (a1)), some (eI (a2)), none, none, none, none, none]) (s2 := [eI (0)]) rfl rfl rfl ?_
        exact b_ri rfl rfl (K μ (0) hI F0 (by decide))
