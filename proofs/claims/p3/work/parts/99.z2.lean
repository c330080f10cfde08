/-! grow -/
theorem Fr.zz {l : List Nat} {c s : Nat} {g : Nat → Nat} {μ m : eM} (h : Fr l (0 + c + 0) (0 + s + 0) g μ m) : Fr l c s g μ m := by
  rw [Nat.zero_add, Nat.add_zero, Nat.zero_add, Nat.add_zero] at h
  exact h
def l_14 : List Nat := [513, 514, 515, 516, 518, 519, 520, 768, 1024, 1280, 1536, 1798, 1799, 1800, 2048, 2304, 2560, 2816, 3073, 3074, 3075, 3328, 3584, 3843, 4096, 4352, 8968, 8969, 8970, 8971, 8972, 8973, 9216, 9472, 9728, 10760, 10761, 10762, 11008, 11264, 11520, 11776, 12032, 12292, 12544, 12800, 13056]
theorem l_14p (k : Nat) (h : fc 7 k ∈ l_14) : fc 2 k ∈ l_14 := by
  have e : fc 7 k = 1793 + k % 255 := (if_neg (by decide)).trans (by omega)
  have e2 : fc 2 k = 513 + k % 255 := (if_neg (by decide)).trans (by omega)
  rw [e] at h
  rw [e2]
  unfold l_14 at h ⊢
  simp only [List.mem_cons, List.not_mem_nil, or_false] at h ⊢
  omega
theorem l_14q (k : Nat) (h : fc 15 k ∈ l_14) : fc 12 k ∈ l_14 := by
  have e : fc 15 k = 3841 + k % 255 := (if_neg (by decide)).trans (by omega)
  have e2 : fc 12 k = 3073 + k % 255 := (if_neg (by decide)).trans (by omega)
  rw [e] at h
  rw [e2]
  unfold l_14 at h ⊢
  simp only [List.mem_cons, List.not_mem_nil, or_false] at h ⊢
  omega
theorem PHI_fr {g : Nat → Nat} {m m2 : eM} {p : Nat} (h : m2.1 p 4 = m.1 p 4) : PHI g m2 p = PHI g m p := by
  unfold PHI
  rw [h]
theorem s_14L_0 {L : Nat} {ρ : Nat → Int} {rc : eQ} {d : Nat} {f : eFr} {F : List eFr} {μ : eM} {g : Nat → Nat} {a0 : Nat} {t p sd r s0 : Nat} (K : ∀ (g2 : Nat → Nat) (μ2 : eM) (c s : Nat), GP g g2 → SI g2 μ2 → Fr l_14 c s g μ μ2 → c ≤ 240 → s ≤ 7766 + s0 → μ2.1 a0 3 = (t : Int) → g2 t = 42 → ex_q (dt_fg L ρ) rc (d + 7, (f.1, f.2.1, f.2.2.1, f.2.2.2), F, μ2)) : ∀ (n : Nat) (i : Int) (g1 : Nat → Nat) (μ1 : eM) (o3 : Option eV) (c s : Nat), GP g g1 → SI g1 μ1 → g1 a0 = 48 → g1 t = 42 → g1 sd = 35 → g1 r = 51 → (g1 p = 2 ∨ g1 p = 7) → μ1.1 a0 3 = (t : Int) → μ1.1 t 5 = (p : Int) → μ1.1 t 6 = (sd : Int) → μ1.1 a0 2 = (r : Int) → (∃ cn : Int, μ1.1 r 0 = cn ∧ 0 ≤ cn) → Fr l_14 c s g μ μ1 → (0 ≤ i ∧ i ≤ 6) → n = (6 - i).toNat → (c : Int) ≤ 30 + 30 * i → s + PHI g1 μ1 p ≤ 7766 + s0 → ex_q (dt_fg L ρ) rc (d + 6, (14, 55, [some (eR a0), some (eI (0)), some (eI (i)), o3], []), f :: F, μ1) := by
  intro n
  induction n using Nat.strongRecOn with
  | _ n ih =>
  intro i g1 μ1 o3 c s hP hI ha ht hsd hr hreg et ep es er hcn hF bi hn hc hs
  have pa := pos_g hI ha (by decide)
  have pt := pos_g hI ht (by decide)
  refine w_t (np := 56) (l2 := [some (eR a0), some (eI (0)), some (eI (i)), o3]) (s2 := [eI (i)]) rfl rfl rfl ?_
  refine w_t (np := 57) (l2 := [some (eR a0), some (eI (0)), some (eI (i)), o3]) (s2 := [eI (5), eI (i)]) rfl rfl rfl ?_
  refine b_cgt (t1 := 127) (t2 := 60) rfl rfl rfl (ev_w_in (by omega) (by omega)) rfl (fun _ => v_rv rfl rfl (K g1 μ1 c s hP hI hF (by omega) (by omega) et ht)) (fun g5 => ?_)
  refine w_t (np := 61) (l2 := [some (eR a0), some (eI (0)), some (eI (i)), o3]) (s2 := [eR a0]) rfl (s_an rfl pa) rfl ?_
  refine w_gf (np := 64) (v := eR t) rfl rfl (hI.kd ha (by decide) (n := 4) rfl) (by rw [et]; rfl) ?_
  refine w_gf (np := 67) (v := eR p) rfl rfl (hI.kd ht (by decide) (n := 10) rfl) (by rw [ep]; rfl) ?_
  refine w_t (np := 68) (l2 := [some (eR a0), some (eI (0)), some (eI (i)), o3]) (s2 := [eI (i), eR p]) rfl rfl rfl ?_
  have hkd : ev_kd μ1 p = some 2 := by
    rcases hreg with h | h
    · exact hI.kd h (by decide) (n := 8) rfl
    · exact hI.kd h (by decide) (n := 8) rfl
  refine w_cw (np := 71) (as := [eI (i)]) (l2 := [some (eR p), some (eI (i)), none]) (rest := []) rfl rfl rfl (Nat.ble_eq.mp rfl) rfl rfl rfl hkd rfl ?_
  refine s_30 hI hreg (by omega) ?_
  intro g2 μ2 c2 s2 P2 I2 F2 hc2 hs2 hr2
  show ex_q (dt_fg L ρ) rc (d + 6, (14, 71, [some (eR a0), some (eI (0)), some (eI (i)), o3], []), f :: F, μ2)
  have ha2 := P2.g ha (by decide) (by decide) (by decide)
  have ht2 := P2.g ht (by decide) (by decide) (by decide)
  have hsd2 := P2.g hsd (by decide) (by decide) (by decide)
  have hrr2 := P2.g hr (by decide) (by decide) (by decide)
  have et2 := F2.k et ha (by decide) rfl
  have ep2 := F2.k ep ht (by decide) rfl
  have es2 := F2.k es ht (by decide) rfl
  have er2 := F2.k er ha (by decide) rfl
  have psd := pos_g I2 hsd2 (by decide)
  have hcn2 : ∃ cn : Int, μ2.1 r 0 = cn ∧ 0 ≤ cn := by
    obtain ⟨cn, e, b⟩ := hcn
    exact ⟨cn, F2.kr e hr (by decide) rfl rfl, b⟩
  refine w_t (np := 72) (l2 := [some (eR a0), some (eI (0)), some (eI (i)), o3]) (s2 := [eR a0]) rfl (s_an rfl pa) rfl ?_
  refine w_gf (np := 75) (v := eR t) rfl rfl (I2.kd ha2 (by decide) (n := 4) rfl) (by rw [et2]; rfl) ?_
  refine w_gf (np := 78) (v := eR sd) rfl rfl (I2.kd ht2 (by decide) (n := 10) rfl) (by rw [es2]; rfl) ?_
  refine w_cw (np := 81) (as := []) (l2 := [some (eR sd), none]) (rest := []) rfl rfl rfl (Nat.ble_eq.mp rfl) rfl rfl rfl (I2.kd hsd2 (by decide) (n := 15) rfl) rfl ?_
  refine s_107 I2 hsd2 ?_
  intro μ3 I3 F3
  show ex_q (dt_fg L ρ) rc (d + 6, (14, 81, [some (eR a0), some (eI (0)), some (eI (i)), o3], []), f :: F, μ3)
  have et3 := F3.k et2 ha2 (by decide) rfl
  have er3 := F3.k er2 ha2 (by decide) rfl
  have ep3 := F3.k ep2 ht2 (by decide) rfl
  have es3 := F3.k es2 ht2 (by decide) rfl
  refine w_t (np := 82) (l2 := [some (eR a0), some (eI (0)), some (eI (i)), o3]) (s2 := [eR a0]) rfl (s_an rfl pa) rfl ?_
  refine w_gf (np := 85) (v := eR t) rfl rfl (I3.kd ha2 (by decide) (n := 4) rfl) (by rw [et3]; rfl) ?_
  refine w_cw (np := 88) (as := []) (l2 := [some (eR t), none, none]) (rest := []) rfl rfl rfl (Nat.ble_eq.mp rfl) rfl rfl rfl (I3.kd ht2 (by decide) (n := 10) rfl) rfl ?_
  refine s_2 I3 ht2 ?_
  intro μ4 I4 F4
  show ex_q (dt_fg L ρ) rc (d + 6, (14, 88, [some (eR a0), some (eI (0)), some (eI (i)), o3], []), f :: F, μ4)
  have et4 := F4.k et3 ha2 (by decide) rfl
  have er4 := F4.k er3 ha2 (by decide) rfl
  have ep4 := F4.k ep3 ht2 (by decide) rfl
  have es4 := F4.k es3 ht2 (by decide) rfl
  have hcn4 : ∃ cn : Int, μ4.1 r 0 = cn ∧ 0 ≤ cn := by
    obtain ⟨cn, e, b⟩ := hcn2
    exact ⟨cn, F4.kr (F3.kr e hrr2 (by decide) rfl rfl) hrr2 (by decide) rfl rfl, b⟩
  refine s_14n_0 I4 ha2 (by omega) er4 hrr2 hcn4 et4 ht2 ?_
  intro μ5 o5 I5 F5 hcn5
  obtain ⟨i2, ei2⟩ : ∃ zz : Int, zz = (i) + (1) := ⟨_, rfl⟩
  refine w_t (np := 124) (l2 := [some (eR a0), some (eI (0)), some (eI (i2)), o5]) (s2 := []) rfl (b_iinc rfl (by rw [← ei2]; exact ev_w_in (by omega) (by omega)) rfl) rfl ?_
  refine w_go (t1 := 55) rfl rfl ?_
  have ephi : PHI g2 μ5 p = PHI g2 μ2 p := by
    rcases hr2 with h | h
    · exact PHI_fr ((F5.k rfl h (by decide) rfl).trans ((F4.k rfl h (by decide) rfl).trans (F3.k rfl h (by decide) rfl)))
    · exact PHI_fr ((F5.k rfl h (by decide) rfl).trans ((F4.k rfl h (by decide) rfl).trans (F3.k rfl h (by decide) rfl)))
  have FT := (((hF.p hP F2 rfl l_14p l_14q).p (hP.t P2) F3 rfl l_14p l_14q).p (hP.t P2) F4 rfl l_14p l_14q).p (hP.t P2) F5 rfl l_14p l_14q
  exact ih (6 - i2).toNat (by omega) i2 g2 μ5 o5 _ _ (hP.t P2) I5 ha2 ht2 hsd2 hrr2 hr2 (F5.k et4 ha2 (by decide) rfl) (F5.k ep4 ht2 (by decide) rfl) (F5.k es4 ht2 (by decide) rfl) (F5.k er4 ha2 (by decide) rfl) hcn5 FT (by omega) rfl (by omega) (by rw [ephi]; omega)
theorem s_14L_1 {L : Nat} {ρ : Nat → Int} {rc : eQ} {d : Nat} {f : eFr} {F : List eFr} {μ : eM} {g : Nat → Nat} {a0 : Nat} {t p sd r s0 : Nat} (K : ∀ (g2 : Nat → Nat) (μ2 : eM) (c s : Nat), GP g g2 → SI g2 μ2 → Fr l_14 c s g μ μ2 → c ≤ 240 → s ≤ 7766 + s0 → μ2.1 a0 3 = (t : Int) → g2 t = 42 → ex_q (dt_fg L ρ) rc (d + 7, (f.1, f.2.1, f.2.2.1, f.2.2.2), F, μ2)) : ∀ (n : Nat) (i : Int) (g1 : Nat → Nat) (μ1 : eM) (o3 : Option eV) (c s : Nat), GP g g1 → SI g1 μ1 → g1 a0 = 48 → g1 t = 42 → g1 sd = 35 → g1 r = 51 → (g1 p = 2 ∨ g1 p = 7) → μ1.1 a0 3 = (t : Int) → μ1.1 t 5 = (p : Int) → μ1.1 t 6 = (sd : Int) → μ1.1 a0 2 = (r : Int) → (∃ cn : Int, μ1.1 r 1 = cn ∧ 0 ≤ cn) → Fr l_14 c s g μ μ1 → (0 ≤ i ∧ i ≤ 6) → n = (6 - i).toNat → (c : Int) ≤ 30 + 30 * i → s + PHI g1 μ1 p ≤ 7766 + s0 → ex_q (dt_fg L ρ) rc (d + 6, (14, 55, [some (eR a0), some (eI (1)), some (eI (i)), o3], []), f :: F, μ1) := by
  intro n
  induction n using Nat.strongRecOn with
  | _ n ih =>
  intro i g1 μ1 o3 c s hP hI ha ht hsd hr hreg et ep es er hcn hF bi hn hc hs
  have pa := pos_g hI ha (by decide)
  have pt := pos_g hI ht (by decide)
  refine w_t (np := 56) (l2 := [some (eR a0), some (eI (1)), some (eI (i)), o3]) (s2 := [eI (i)]) rfl rfl rfl ?_
  refine w_t (np := 57) (l2 := [some (eR a0), some (eI (1)), some (eI (i)), o3]) (s2 := [eI (5), eI (i)]) rfl rfl rfl ?_
  refine b_cgt (t1 := 127) (t2 := 60) rfl rfl rfl (ev_w_in (by omega) (by omega)) rfl (fun _ => v_rv rfl rfl (K g1 μ1 c s hP hI hF (by omega) (by omega) et ht)) (fun g5 => ?_)
  refine w_t (np := 61) (l2 := [some (eR a0), some (eI (1)), some (eI (i)), o3]) (s2 := [eR a0]) rfl (s_an rfl pa) rfl ?_
  refine w_gf (np := 64) (v := eR t) rfl rfl (hI.kd ha (by decide) (n := 4) rfl) (by rw [et]; rfl) ?_
  refine w_gf (np := 67) (v := eR p) rfl rfl (hI.kd ht (by decide) (n := 10) rfl) (by rw [ep]; rfl) ?_
  refine w_t (np := 68) (l2 := [some (eR a0), some (eI (1)), some (eI (i)), o3]) (s2 := [eI (i), eR p]) rfl rfl rfl ?_
  have hkd : ev_kd μ1 p = some 2 := by
    rcases hreg with h | h
    · exact hI.kd h (by decide) (n := 8) rfl
    · exact hI.kd h (by decide) (n := 8) rfl
  refine w_cw (np := 71) (as := [eI (i)]) (l2 := [some (eR p), some (eI (i)), none]) (rest := []) rfl rfl rfl (Nat.ble_eq.mp rfl) rfl rfl rfl hkd rfl ?_
  refine s_30 hI hreg (by omega) ?_
  intro g2 μ2 c2 s2 P2 I2 F2 hc2 hs2 hr2
  show ex_q (dt_fg L ρ) rc (d + 6, (14, 71, [some (eR a0), some (eI (1)), some (eI (i)), o3], []), f :: F, μ2)
  have ha2 := P2.g ha (by decide) (by decide) (by decide)
  have ht2 := P2.g ht (by decide) (by decide) (by decide)
  have hsd2 := P2.g hsd (by decide) (by decide) (by decide)
  have hrr2 := P2.g hr (by decide) (by decide) (by decide)
  have et2 := F2.k et ha (by decide) rfl
  have ep2 := F2.k ep ht (by decide) rfl
  have es2 := F2.k es ht (by decide) rfl
  have er2 := F2.k er ha (by decide) rfl
  have psd := pos_g I2 hsd2 (by decide)
  have hcn2 : ∃ cn : Int, μ2.1 r 1 = cn ∧ 0 ≤ cn := by
    obtain ⟨cn, e, b⟩ := hcn
    exact ⟨cn, F2.kr e hr (by decide) rfl rfl, b⟩
  refine w_t (np := 72) (l2 := [some (eR a0), some (eI (1)), some (eI (i)), o3]) (s2 := [eR a0]) rfl (s_an rfl pa) rfl ?_
  refine w_gf (np := 75) (v := eR t) rfl rfl (I2.kd ha2 (by decide) (n := 4) rfl) (by rw [et2]; rfl) ?_
  refine w_gf (np := 78) (v := eR sd) rfl rfl (I2.kd ht2 (by decide) (n := 10) rfl) (by rw [es2]; rfl) ?_
  refine w_cw (np := 81) (as := []) (l2 := [some (eR sd), none]) (rest := []) rfl rfl rfl (Nat.ble_eq.mp rfl) rfl rfl rfl (I2.kd hsd2 (by decide) (n := 15) rfl) rfl ?_
  refine s_107 I2 hsd2 ?_
  intro μ3 I3 F3
  show ex_q (dt_fg L ρ) rc (d + 6, (14, 81, [some (eR a0), some (eI (1)), some (eI (i)), o3], []), f :: F, μ3)
  have et3 := F3.k et2 ha2 (by decide) rfl
  have er3 := F3.k er2 ha2 (by decide) rfl
  have ep3 := F3.k ep2 ht2 (by decide) rfl
  have es3 := F3.k es2 ht2 (by decide) rfl
  refine w_t (np := 82) (l2 := [some (eR a0), some (eI (1)), some (eI (i)), o3]) (s2 := [eR a0]) rfl (s_an rfl pa) rfl ?_
  refine w_gf (np := 85) (v := eR t) rfl rfl (I3.kd ha2 (by decide) (n := 4) rfl) (by rw [et3]; rfl) ?_
  refine w_cw (np := 88) (as := []) (l2 := [some (eR t), none, none]) (rest := []) rfl rfl rfl (Nat.ble_eq.mp rfl) rfl rfl rfl (I3.kd ht2 (by decide) (n := 10) rfl) rfl ?_
  refine s_2 I3 ht2 ?_
  intro μ4 I4 F4
  show ex_q (dt_fg L ρ) rc (d + 6, (14, 88, [some (eR a0), some (eI (1)), some (eI (i)), o3], []), f :: F, μ4)
  have et4 := F4.k et3 ha2 (by decide) rfl
  have er4 := F4.k er3 ha2 (by decide) rfl
  have ep4 := F4.k ep3 ht2 (by decide) rfl
  have es4 := F4.k es3 ht2 (by decide) rfl
  have hcn4 : ∃ cn : Int, μ4.1 r 1 = cn ∧ 0 ≤ cn := by
    obtain ⟨cn, e, b⟩ := hcn2
    exact ⟨cn, F4.kr (F3.kr e hrr2 (by decide) rfl rfl) hrr2 (by decide) rfl rfl, b⟩
  refine s_14n_1 I4 ha2 (by omega) er4 hrr2 hcn4 et4 ht2 ?_
  intro μ5 o5 I5 F5 hcn5
  obtain ⟨i2, ei2⟩ : ∃ zz : Int, zz = (i) + (1) := ⟨_, rfl⟩
  refine w_t (np := 124) (l2 := [some (eR a0), some (eI (1)), some (eI (i2)), o5]) (s2 := []) rfl (b_iinc rfl (by rw [← ei2]; exact ev_w_in (by omega) (by omega)) rfl) rfl ?_
  refine w_go (t1 := 55) rfl rfl ?_
  have ephi : PHI g2 μ5 p = PHI g2 μ2 p := by
    rcases hr2 with h | h
    · exact PHI_fr ((F5.k rfl h (by decide) rfl).trans ((F4.k rfl h (by decide) rfl).trans (F3.k rfl h (by decide) rfl)))
    · exact PHI_fr ((F5.k rfl h (by decide) rfl).trans ((F4.k rfl h (by decide) rfl).trans (F3.k rfl h (by decide) rfl)))
  have FT := (((hF.p hP F2 rfl l_14p l_14q).p (hP.t P2) F3 rfl l_14p l_14q).p (hP.t P2) F4 rfl l_14p l_14q).p (hP.t P2) F5 rfl l_14p l_14q
  exact ih (6 - i2).toNat (by omega) i2 g2 μ5 o5 _ _ (hP.t P2) I5 ha2 ht2 hsd2 hrr2 hr2 (F5.k et4 ha2 (by decide) rfl) (F5.k ep4 ht2 (by decide) rfl) (F5.k es4 ht2 (by decide) rfl) (F5.k er4 ha2 (by decide) rfl) hcn5 FT (by omega) rfl (by omega) (by rw [ephi]; omega)
theorem s_14L_2 {L : Nat} {ρ : Nat → Int} {rc : eQ} {d : Nat} {f : eFr} {F : List eFr} {μ : eM} {g : Nat → Nat} {a0 : Nat} {t p sd r s0 : Nat} (K : ∀ (g2 : Nat → Nat) (μ2 : eM) (c s : Nat), GP g g2 → SI g2 μ2 → Fr l_14 c s g μ μ2 → c ≤ 240 → s ≤ 7766 + s0 → μ2.1 a0 3 = (t : Int) → g2 t = 42 → ex_q (dt_fg L ρ) rc (d + 7, (f.1, f.2.1, f.2.2.1, f.2.2.2), F, μ2)) : ∀ (n : Nat) (i : Int) (g1 : Nat → Nat) (μ1 : eM) (o3 : Option eV) (c s : Nat), GP g g1 → SI g1 μ1 → g1 a0 = 48 → g1 t = 42 → g1 sd = 35 → g1 r = 51 → (g1 p = 2 ∨ g1 p = 7) → μ1.1 a0 3 = (t : Int) → μ1.1 t 5 = (p : Int) → μ1.1 t 6 = (sd : Int) → μ1.1 a0 2 = (r : Int) → (∃ cn : Int, μ1.1 r 2 = cn ∧ 0 ≤ cn) → Fr l_14 c s g μ μ1 → (0 ≤ i ∧ i ≤ 6) → n = (6 - i).toNat → (c : Int) ≤ 30 + 30 * i → s + PHI g1 μ1 p ≤ 7766 + s0 → ex_q (dt_fg L ρ) rc (d + 6, (14, 55, [some (eR a0), some (eI (2)), some (eI (i)), o3], []), f :: F, μ1) := by
  intro n
  induction n using Nat.strongRecOn with
  | _ n ih =>
  intro i g1 μ1 o3 c s hP hI ha ht hsd hr hreg et ep es er hcn hF bi hn hc hs
  have pa := pos_g hI ha (by decide)
  have pt := pos_g hI ht (by decide)
  refine w_t (np := 56) (l2 := [some (eR a0), some (eI (2)), some (eI (i)), o3]) (s2 := [eI (i)]) rfl rfl rfl ?_
  refine w_t (np := 57) (l2 := [some (eR a0), some (eI (2)), some (eI (i)), o3]) (s2 := [eI (5), eI (i)]) rfl rfl rfl ?_
  refine b_cgt (t1 := 127) (t2 := 60) rfl rfl rfl (ev_w_in (by omega) (by omega)) rfl (fun _ => v_rv rfl rfl (K g1 μ1 c s hP hI hF (by omega) (by omega) et ht)) (fun g5 => ?_)
  refine w_t (np := 61) (l2 := [some (eR a0), some (eI (2)), some (eI (i)), o3]) (s2 := [eR a0]) rfl (s_an rfl pa) rfl ?_
  refine w_gf (np := 64) (v := eR t) rfl rfl (hI.kd ha (by decide) (n := 4) rfl) (by rw [et]; rfl) ?_
  refine w_gf (np := 67) (v := eR p) rfl rfl (hI.kd ht (by decide) (n := 10) rfl) (by rw [ep]; rfl) ?_
  refine w_t (np := 68) (l2 := [some (eR a0), some (eI (2)), some (eI (i)), o3]) (s2 := [eI (i), eR p]) rfl rfl rfl ?_
  have hkd : ev_kd μ1 p = some 2 := by
    rcases hreg with h | h
    · exact hI.kd h (by decide) (n := 8) rfl
    · exact hI.kd h (by decide) (n := 8) rfl
  refine w_cw (np := 71) (as := [eI (i)]) (l2 := [some (eR p), some (eI (i)), none]) (rest := []) rfl rfl rfl (Nat.ble_eq.mp rfl) rfl rfl rfl hkd rfl ?_
  refine s_30 hI hreg (by omega) ?_
  intro g2 μ2 c2 s2 P2 I2 F2 hc2 hs2 hr2
  show ex_q (dt_fg L ρ) rc (d + 6, (14, 71, [some (eR a0), some (eI (2)), some (eI (i)), o3], []), f :: F, μ2)
  have ha2 := P2.g ha (by decide) (by decide) (by decide)
  have ht2 := P2.g ht (by decide) (by decide) (by decide)
  have hsd2 := P2.g hsd (by decide) (by decide) (by decide)
  have hrr2 := P2.g hr (by decide) (by decide) (by decide)
  have et2 := F2.k et ha (by decide) rfl
  have ep2 := F2.k ep ht (by decide) rfl
  have es2 := F2.k es ht (by decide) rfl
  have er2 := F2.k er ha (by decide) rfl
  have psd := pos_g I2 hsd2 (by decide)
  have hcn2 : ∃ cn : Int, μ2.1 r 2 = cn ∧ 0 ≤ cn := by
    obtain ⟨cn, e, b⟩ := hcn
    exact ⟨cn, F2.kr e hr (by decide) rfl rfl, b⟩
  refine w_t (np := 72) (l2 := [some (eR a0), some (eI (2)), some (eI (i)), o3]) (s2 := [eR a0]) rfl (s_an rfl pa) rfl ?_
  refine w_gf (np := 75) (v := eR t) rfl rfl (I2.kd ha2 (by decide) (n := 4) rfl) (by rw [et2]; rfl) ?_
  refine w_gf (np := 78) (v := eR sd) rfl rfl (I2.kd ht2 (by decide) (n := 10) rfl) (by rw [es2]; rfl) ?_
  refine w_cw (np := 81) (as := []) (l2 := [some (eR sd), none]) (rest := []) rfl rfl rfl (Nat.ble_eq.mp rfl) rfl rfl rfl (I2.kd hsd2 (by decide) (n := 15) rfl) rfl ?_
  refine s_107 I2 hsd2 ?_
  intro μ3 I3 F3
  show ex_q (dt_fg L ρ) rc (d + 6, (14, 81, [some (eR a0), some (eI (2)), some (eI (i)), o3], []), f :: F, μ3)
  have et3 := F3.k et2 ha2 (by decide) rfl
  have er3 := F3.k er2 ha2 (by decide) rfl
  have ep3 := F3.k ep2 ht2 (by decide) rfl
  have es3 := F3.k es2 ht2 (by decide) rfl
  refine w_t (np := 82) (l2 := [some (eR a0), some (eI (2)), some (eI (i)), o3]) (s2 := [eR a0]) rfl (s_an rfl pa) rfl ?_
  refine w_gf (np := 85) (v := eR t) rfl rfl (I3.kd ha2 (by decide) (n := 4) rfl) (by rw [et3]; rfl) ?_
  refine w_cw (np := 88) (as := []) (l2 := [some (eR t), none, none]) (rest := []) rfl rfl rfl (Nat.ble_eq.mp rfl) rfl rfl rfl (I3.kd ht2 (by decide) (n := 10) rfl) rfl ?_
  refine s_2 I3 ht2 ?_
  intro μ4 I4 F4
  show ex_q (dt_fg L ρ) rc (d + 6, (14, 88, [some (eR a0), some (eI (2)), some (eI (i)), o3], []), f :: F, μ4)
  have et4 := F4.k et3 ha2 (by decide) rfl
  have er4 := F4.k er3 ha2 (by decide) rfl
  have ep4 := F4.k ep3 ht2 (by decide) rfl
  have es4 := F4.k es3 ht2 (by decide) rfl
  have hcn4 : ∃ cn : Int, μ4.1 r 2 = cn ∧ 0 ≤ cn := by
    obtain ⟨cn, e, b⟩ := hcn2
    exact ⟨cn, F4.kr (F3.kr e hrr2 (by decide) rfl rfl) hrr2 (by decide) rfl rfl, b⟩
  refine s_14n_2 I4 ha2 (by omega) er4 hrr2 hcn4 et4 ht2 ?_
  intro μ5 o5 I5 F5 hcn5
  obtain ⟨i2, ei2⟩ : ∃ zz : Int, zz = (i) + (1) := ⟨_, rfl⟩
  refine w_t (np := 124) (l2 := [some (eR a0), some (eI (2)), some (eI (i2)), o5]) (s2 := []) rfl (b_iinc rfl (by rw [← ei2]; exact ev_w_in (by omega) (by omega)) rfl) rfl ?_
  refine w_go (t1 := 55) rfl rfl ?_
  have ephi : PHI g2 μ5 p = PHI g2 μ2 p := by
    rcases hr2 with h | h
    · exact PHI_fr ((F5.k rfl h (by decide) rfl).trans ((F4.k rfl h (by decide) rfl).trans (F3.k rfl h (by decide) rfl)))
    · exact PHI_fr ((F5.k rfl h (by decide) rfl).trans ((F4.k rfl h (by decide) rfl).trans (F3.k rfl h (by decide) rfl)))
  have FT := (((hF.p hP F2 rfl l_14p l_14q).p (hP.t P2) F3 rfl l_14p l_14q).p (hP.t P2) F4 rfl l_14p l_14q).p (hP.t P2) F5 rfl l_14p l_14q
  exact ih (6 - i2).toNat (by omega) i2 g2 μ5 o5 _ _ (hP.t P2) I5 ha2 ht2 hsd2 hrr2 hr2 (F5.k et4 ha2 (by decide) rfl) (F5.k ep4 ht2 (by decide) rfl) (F5.k es4 ht2 (by decide) rfl) (F5.k er4 ha2 (by decide) rfl) hcn5 FT (by omega) rfl (by omega) (by rw [ephi]; omega)
theorem s_14L_3 {L : Nat} {ρ : Nat → Int} {rc : eQ} {d : Nat} {f : eFr} {F : List eFr} {μ : eM} {g : Nat → Nat} {a0 : Nat} {t p sd r s0 : Nat} (K : ∀ (g2 : Nat → Nat) (μ2 : eM) (c s : Nat), GP g g2 → SI g2 μ2 → Fr l_14 c s g μ μ2 → c ≤ 240 → s ≤ 7766 + s0 → μ2.1 a0 3 = (t : Int) → g2 t = 42 → ex_q (dt_fg L ρ) rc (d + 7, (f.1, f.2.1, f.2.2.1, f.2.2.2), F, μ2)) : ∀ (n : Nat) (i : Int) (g1 : Nat → Nat) (μ1 : eM) (o3 : Option eV) (c s : Nat), GP g g1 → SI g1 μ1 → g1 a0 = 48 → g1 t = 42 → g1 sd = 35 → g1 r = 51 → (g1 p = 2 ∨ g1 p = 7) → μ1.1 a0 3 = (t : Int) → μ1.1 t 5 = (p : Int) → μ1.1 t 6 = (sd : Int) → μ1.1 a0 2 = (r : Int) → (∃ cn : Int, μ1.1 r 3 = cn ∧ 0 ≤ cn) → Fr l_14 c s g μ μ1 → (0 ≤ i ∧ i ≤ 6) → n = (6 - i).toNat → (c : Int) ≤ 30 + 30 * i → s + PHI g1 μ1 p ≤ 7766 + s0 → ex_q (dt_fg L ρ) rc (d + 6, (14, 55, [some (eR a0), some (eI (3)), some (eI (i)), o3], []), f :: F, μ1) := by
  intro n
  induction n using Nat.strongRecOn with
  | _ n ih =>
  intro i g1 μ1 o3 c s hP hI ha ht hsd hr hreg et ep es er hcn hF bi hn hc hs
  have pa := pos_g hI ha (by decide)
  have pt := pos_g hI ht (by decide)
  refine w_t (np := 56) (l2 := [some (eR a0), some (eI (3)), some (eI (i)), o3]) (s2 := [eI (i)]) rfl rfl rfl ?_
  refine w_t (np := 57) (l2 := [some (eR a0), some (eI (3)), some (eI (i)), o3]) (s2 := [eI (5), eI (i)]) rfl rfl rfl ?_
  refine b_cgt (t1 := 127) (t2 := 60) rfl rfl rfl (ev_w_in (by omega) (by omega)) rfl (fun _ => v_rv rfl rfl (K g1 μ1 c s hP hI hF (by omega) (by omega) et ht)) (fun g5 => ?_)
  refine w_t (np := 61) (l2 := [some (eR a0), some (eI (3)), some (eI (i)), o3]) (s2 := [eR a0]) rfl (s_an rfl pa) rfl ?_
  refine w_gf (np := 64) (v := eR t) rfl rfl (hI.kd ha (by decide) (n := 4) rfl) (by rw [et]; rfl) ?_
  refine w_gf (np := 67) (v := eR p) rfl rfl (hI.kd ht (by decide) (n := 10) rfl) (by rw [ep]; rfl) ?_
  refine w_t (np := 68) (l2 := [some (eR a0), some (eI (3)), some (eI (i)), o3]) (s2 := [eI (i), eR p]) rfl rfl rfl ?_
  have hkd : ev_kd μ1 p = some 2 := by
    rcases hreg with h | h
    · exact hI.kd h (by decide) (n := 8) rfl
    · exact hI.kd h (by decide) (n := 8) rfl
  refine w_cw (np := 71) (as := [eI (i)]) (l2 := [some (eR p), some (eI (i)), none]) (rest := []) rfl rfl rfl (Nat.ble_eq.mp rfl) rfl rfl rfl hkd rfl ?_
  refine s_30 hI hreg (by omega) ?_
  intro g2 μ2 c2 s2 P2 I2 F2 hc2 hs2 hr2
  show ex_q (dt_fg L ρ) rc (d + 6, (14, 71, [some (eR a0), some (eI (3)), some (eI (i)), o3], []), f :: F, μ2)
  have ha2 := P2.g ha (by decide) (by decide) (by decide)
  have ht2 := P2.g ht (by decide) (by decide) (by decide)
  have hsd2 := P2.g hsd (by decide) (by decide) (by decide)
  have hrr2 := P2.g hr (by decide) (by decide) (by decide)
  have et2 := F2.k et ha (by decide) rfl
  have ep2 := F2.k ep ht (by decide) rfl
  have es2 := F2.k es ht (by decide) rfl
  have er2 := F2.k er ha (by decide) rfl
  have psd := pos_g I2 hsd2 (by decide)
  have hcn2 : ∃ cn : Int, μ2.1 r 3 = cn ∧ 0 ≤ cn := by
    obtain ⟨cn, e, b⟩ := hcn
    exact ⟨cn, F2.kr e hr (by decide) rfl rfl, b⟩
  refine w_t (np := 72) (l2 := [some (eR a0), some (eI (3)), some (eI (i)), o3]) (s2 := [eR a0]) rfl (s_an rfl pa) rfl ?_
  refine w_gf (np := 75) (v := eR t) rfl rfl (I2.kd ha2 (by decide) (n := 4) rfl) (by rw [et2]; rfl) ?_
  refine w_gf (np := 78) (v := eR sd) rfl rfl (I2.kd ht2 (by decide) (n := 10) rfl) (by rw [es2]; rfl) ?_
  refine w_cw (np := 81) (as := []) (l2 := [some (eR sd), none]) (rest := []) rfl rfl rfl (Nat.ble_eq.mp rfl) rfl rfl rfl (I2.kd hsd2 (by decide) (n := 15) rfl) rfl ?_
  refine s_107 I2 hsd2 ?_
  intro μ3 I3 F3
  show ex_q (dt_fg L ρ) rc (d + 6, (14, 81, [some (eR a0), some (eI (3)), some (eI (i)), o3], []), f :: F, μ3)
  have et3 := F3.k et2 ha2 (by decide) rfl
  have er3 := F3.k er2 ha2 (by decide) rfl
  have ep3 := F3.k ep2 ht2 (by decide) rfl
  have es3 := F3.k es2 ht2 (by decide) rfl
  refine w_t (np := 82) (l2 := [some (eR a0), some (eI (3)), some (eI (i)), o3]) (s2 := [eR a0]) rfl (s_an rfl pa) rfl ?_
  refine w_gf (np := 85) (v := eR t) rfl rfl (I3.kd ha2 (by decide) (n := 4) rfl) (by rw [et3]; rfl) ?_
  refine w_cw (np := 88) (as := []) (l2 := [some (eR t), none, none]) (rest := []) rfl rfl rfl (Nat.ble_eq.mp rfl) rfl rfl rfl (I3.kd ht2 (by decide) (n := 10) rfl) rfl ?_
  refine s_2 I3 ht2 ?_
  intro μ4 I4 F4
  show ex_q (dt_fg L ρ) rc (d + 6, (14, 88, [some (eR a0), some (eI (3)), some (eI (i)), o3], []), f :: F, μ4)
  have et4 := F4.k et3 ha2 (by decide) rfl
  have er4 := F4.k er3 ha2 (by decide) rfl
  have ep4 := F4.k ep3 ht2 (by decide) rfl
  have es4 := F4.k es3 ht2 (by decide) rfl
  have hcn4 : ∃ cn : Int, μ4.1 r 3 = cn ∧ 0 ≤ cn := by
    obtain ⟨cn, e, b⟩ := hcn2
    exact ⟨cn, F4.kr (F3.kr e hrr2 (by decide) rfl rfl) hrr2 (by decide) rfl rfl, b⟩
  refine s_14n_3 I4 ha2 (by omega) er4 hrr2 hcn4 et4 ht2 ?_
  intro μ5 o5 I5 F5 hcn5
  obtain ⟨i2, ei2⟩ : ∃ zz : Int, zz = (i) + (1) := ⟨_, rfl⟩
  refine w_t (np := 124) (l2 := [some (eR a0), some (eI (3)), some (eI (i2)), o5]) (s2 := []) rfl (b_iinc rfl (by rw [← ei2]; exact ev_w_in (by omega) (by omega)) rfl) rfl ?_
  refine w_go (t1 := 55) rfl rfl ?_
  have ephi : PHI g2 μ5 p = PHI g2 μ2 p := by
    rcases hr2 with h | h
    · exact PHI_fr ((F5.k rfl h (by decide) rfl).trans ((F4.k rfl h (by decide) rfl).trans (F3.k rfl h (by decide) rfl)))
    · exact PHI_fr ((F5.k rfl h (by decide) rfl).trans ((F4.k rfl h (by decide) rfl).trans (F3.k rfl h (by decide) rfl)))
  have FT := (((hF.p hP F2 rfl l_14p l_14q).p (hP.t P2) F3 rfl l_14p l_14q).p (hP.t P2) F4 rfl l_14p l_14q).p (hP.t P2) F5 rfl l_14p l_14q
  exact ih (6 - i2).toNat (by omega) i2 g2 μ5 o5 _ _ (hP.t P2) I5 ha2 ht2 hsd2 hrr2 hr2 (F5.k et4 ha2 (by decide) rfl) (F5.k ep4 ht2 (by decide) rfl) (F5.k es4 ht2 (by decide) rfl) (F5.k er4 ha2 (by decide) rfl) hcn5 FT (by omega) rfl (by omega) (by rw [ephi]; omega)
theorem s_14_0 {L : Nat} {ρ : Nat → Int} {rc : eQ} {d : Nat} {f : eFr} {F : List eFr} {μ : eM} {g : Nat → Nat} {a0 : Nat} (hI : SI g μ) (gA0 : g a0 = 48) (K : ∀ (g2 : Nat → Nat) (μ2 : eM) (t c s : Nat), GP g g2 → SI g2 μ2 → Fr l_14 c s g μ μ2 → c ≤ 240 → (s ≤ 7766 ∨ μ.1 a0 3 = 0 ∧ s ≤ 19166) → μ2.1 a0 3 = (t : Int) → g2 t = 42 → ex_q (dt_fg L ρ) rc (d + 7, (f.1, f.2.1, f.2.2.1, f.2.2.2), F, μ2)) : ex_q (dt_fg L ρ) rc (d + 6, (14, 0, [some (eR a0), some (eI (0)), none, none], []), f :: F, μ) := by
  refine s_14p_0 hI gA0 ?_
  intro g1 μ1 t r o c1 s1 E1 I1 F1 hw ht et er hr e0
  have ha := E1.g gA0 (by decide)
  have pa := pos_g I1 ha (by decide)
  obtain ⟨p, ep, bp, zp⟩ := I1.ref (k := 5) ht (by decide) (n := 10) rfl (by decide) rfl
  have bp := hor2 bp
  obtain ⟨sd, es, bs, zs⟩ := I1.ref (k := 6) ht (by decide) (n := 10) rfl (by decide) rfl
  have bs : g1 sd = 35 := Nat.eq_of_beq_eq_true bs
  have hkd : ev_kd μ1 p = some 2 := by
    rcases bp with h | h
    · exact I1.kd h (by decide) (n := 8) rfl
    · exact I1.kd h (by decide) (n := 8) rfl
  refine w_t (np := 43) (l2 := [some (eR a0), some (eI (0)), o, none]) (s2 := [eR a0]) rfl (s_an rfl pa) rfl ?_
  refine w_gf (np := 46) (v := eR t) rfl rfl (I1.kd ha (by decide) (n := 4) rfl) (by rw [et]; rfl) ?_
  refine w_gf (np := 49) (v := eR p) rfl rfl (I1.kd ht (by decide) (n := 10) rfl) (by rw [ep]; rfl) ?_
  refine w_t (np := 50) (l2 := [some (eR a0), some (eI (0)), o, none]) (s2 := [eI (0), eR p]) rfl rfl rfl ?_
  refine w_cw (np := 53) (as := [eI (0)]) (l2 := [some (eR p), some (eI (0)), none]) (rest := []) rfl rfl rfl (Nat.ble_eq.mp rfl) rfl rfl rfl hkd rfl ?_
  have tail : ∀ (μ2 : eM), SI g1 μ2 → Fr l_14 0 0 g1 μ1 μ2 → μ2.1 r 0 = 0 → μ2.1 a0 3 = (t : Int) → ex_q (dt_fg L ρ) rc (d + 6, (14, 53, [some (eR a0), some (eI (0)), o, none], []), f :: F, μ2) := by
    intro μ2 I2 F2 e02 et2
    refine w_t (np := 54) (l2 := [some (eR a0), some (eI (0)), o, none]) (s2 := [eI (0)]) rfl rfl rfl ?_
    refine w_t (np := 55) (l2 := [some (eR a0), some (eI (0)), some (eI (0)), none]) (s2 := []) rfl rfl rfl ?_
    have hphi : PHI g1 μ2 p ≤ 7766 := by
      unfold PHI
      split <;> split <;> omega
    refine s_14L_0 (s0 := s1) (μ := μ) (g := g) (t := t) (p := p) (sd := sd) (r := r) (fun g2 μ3 c s P3 I3 F3 hc hs et3 ht3 => K g2 μ3 t c s P3 I3 F3 hc ?_ et3 ht3) 6 0 g1 μ2 none c1 s1 E1.p I2 ha ht bs hr bp et2 (F2.k ep ht (by decide) rfl) (F2.k es ht (by decide) rfl) (F2.k er ha (by decide) rfl) ⟨0, e02, by decide⟩ ?_ (by decide) rfl ?_ (by omega)
    · rcases hw with ⟨h1, h2, h3⟩ | ⟨h1, h2, h3⟩
      · exact Or.inl (by omega)
      · exact Or.inr ⟨h1, by omega⟩
    · exact ((Fr.r (l := l_14)).t3 hI.re F1 rfl |>.t3 E1 F2 rfl).zz
    · rcases hw with ⟨h1, h2, h3⟩ | ⟨h1, h2, h3⟩ <;> omega
  rcases bp with gp | gp
  · refine s_26 (a1 := 0) I1 gp (by decide) rfl ?_
    intro m co2 I2 F2 _ _
    exact tail m I2 (Fr.r.t F2 rfl) (F2.kr e0 hr (by decide) rfl rfl) (F2.k et ha (by decide) rfl)
  · refine s_26_2 (a1 := 0) I1 gp (by decide) rfl ?_
    intro m co2 I2 F2 _ _
    exact tail m I2 (Fr.r.t F2 rfl) (F2.kr e0 hr (by decide) rfl rfl) (F2.k et ha (by decide) rfl)
theorem s_14_1 {L : Nat} {ρ : Nat → Int} {rc : eQ} {d : Nat} {f : eFr} {F : List eFr} {μ : eM} {g : Nat → Nat} {a0 : Nat} (hI : SI g μ) (gA0 : g a0 = 48) (K : ∀ (g2 : Nat → Nat) (μ2 : eM) (t c s : Nat), GP g g2 → SI g2 μ2 → Fr l_14 c s g μ μ2 → c ≤ 240 → (s ≤ 7766 ∨ μ.1 a0 3 = 0 ∧ s ≤ 19166) → μ2.1 a0 3 = (t : Int) → g2 t = 42 → ex_q (dt_fg L ρ) rc (d + 7, (f.1, f.2.1, f.2.2.1, f.2.2.2), F, μ2)) : ex_q (dt_fg L ρ) rc (d + 6, (14, 0, [some (eR a0), some (eI (1)), none, none], []), f :: F, μ) := by
  refine s_14p_1 hI gA0 ?_
  intro g1 μ1 t r o c1 s1 E1 I1 F1 hw ht et er hr e0
  have ha := E1.g gA0 (by decide)
  have pa := pos_g I1 ha (by decide)
  obtain ⟨p, ep, bp, zp⟩ := I1.ref (k := 5) ht (by decide) (n := 10) rfl (by decide) rfl
  have bp := hor2 bp
  obtain ⟨sd, es, bs, zs⟩ := I1.ref (k := 6) ht (by decide) (n := 10) rfl (by decide) rfl
  have bs : g1 sd = 35 := Nat.eq_of_beq_eq_true bs
  have hkd : ev_kd μ1 p = some 2 := by
    rcases bp with h | h
    · exact I1.kd h (by decide) (n := 8) rfl
    · exact I1.kd h (by decide) (n := 8) rfl
  refine w_t (np := 43) (l2 := [some (eR a0), some (eI (1)), o, none]) (s2 := [eR a0]) rfl (s_an rfl pa) rfl ?_
  refine w_gf (np := 46) (v := eR t) rfl rfl (I1.kd ha (by decide) (n := 4) rfl) (by rw [et]; rfl) ?_
  refine w_gf (np := 49) (v := eR p) rfl rfl (I1.kd ht (by decide) (n := 10) rfl) (by rw [ep]; rfl) ?_
  refine w_t (np := 50) (l2 := [some (eR a0), some (eI (1)), o, none]) (s2 := [eI (1), eR p]) rfl rfl rfl ?_
  refine w_cw (np := 53) (as := [eI (1)]) (l2 := [some (eR p), some (eI (1)), none]) (rest := []) rfl rfl rfl (Nat.ble_eq.mp rfl) rfl rfl rfl hkd rfl ?_
  have tail : ∀ (μ2 : eM), SI g1 μ2 → Fr l_14 0 0 g1 μ1 μ2 → μ2.1 r 1 = 0 → μ2.1 a0 3 = (t : Int) → ex_q (dt_fg L ρ) rc (d + 6, (14, 53, [some (eR a0), some (eI (1)), o, none], []), f :: F, μ2) := by
    intro μ2 I2 F2 e02 et2
    refine w_t (np := 54) (l2 := [some (eR a0), some (eI (1)), o, none]) (s2 := [eI (0)]) rfl rfl rfl ?_
    refine w_t (np := 55) (l2 := [some (eR a0), some (eI (1)), some (eI (0)), none]) (s2 := []) rfl rfl rfl ?_
    have hphi : PHI g1 μ2 p ≤ 7766 := by
      unfold PHI
      split <;> split <;> omega
    refine s_14L_1 (s0 := s1) (μ := μ) (g := g) (t := t) (p := p) (sd := sd) (r := r) (fun g2 μ3 c s P3 I3 F3 hc hs et3 ht3 => K g2 μ3 t c s P3 I3 F3 hc ?_ et3 ht3) 6 0 g1 μ2 none c1 s1 E1.p I2 ha ht bs hr bp et2 (F2.k ep ht (by decide) rfl) (F2.k es ht (by decide) rfl) (F2.k er ha (by decide) rfl) ⟨0, e02, by decide⟩ ?_ (by decide) rfl ?_ (by omega)
    · rcases hw with ⟨h1, h2, h3⟩ | ⟨h1, h2, h3⟩
      · exact Or.inl (by omega)
      · exact Or.inr ⟨h1, by omega⟩
    · exact ((Fr.r (l := l_14)).t3 hI.re F1 rfl |>.t3 E1 F2 rfl).zz
    · rcases hw with ⟨h1, h2, h3⟩ | ⟨h1, h2, h3⟩ <;> omega
  rcases bp with gp | gp
  · refine s_26 (a1 := 1) I1 gp (by decide) rfl ?_
    intro m co2 I2 F2 _ _
    exact tail m I2 (Fr.r.t F2 rfl) (F2.kr e0 hr (by decide) rfl rfl) (F2.k et ha (by decide) rfl)
  · refine s_26_2 (a1 := 1) I1 gp (by decide) rfl ?_
    intro m co2 I2 F2 _ _
    exact tail m I2 (Fr.r.t F2 rfl) (F2.kr e0 hr (by decide) rfl rfl) (F2.k et ha (by decide) rfl)
theorem s_14_2 {L : Nat} {ρ : Nat → Int} {rc : eQ} {d : Nat} {f : eFr} {F : List eFr} {μ : eM} {g : Nat → Nat} {a0 : Nat} (hI : SI g μ) (gA0 : g a0 = 48) (K : ∀ (g2 : Nat → Nat) (μ2 : eM) (t c s : Nat), GP g g2 → SI g2 μ2 → Fr l_14 c s g μ μ2 → c ≤ 240 → (s ≤ 7766 ∨ μ.1 a0 3 = 0 ∧ s ≤ 19166) → μ2.1 a0 3 = (t : Int) → g2 t = 42 → ex_q (dt_fg L ρ) rc (d + 7, (f.1, f.2.1, f.2.2.1, f.2.2.2), F, μ2)) : ex_q (dt_fg L ρ) rc (d + 6, (14, 0, [some (eR a0), some (eI (2)), none, none], []), f :: F, μ) := by
  refine s_14p_2 hI gA0 ?_
  intro g1 μ1 t r o c1 s1 E1 I1 F1 hw ht et er hr e0
  have ha := E1.g gA0 (by decide)
  have pa := pos_g I1 ha (by decide)
  obtain ⟨p, ep, bp, zp⟩ := I1.ref (k := 5) ht (by decide) (n := 10) rfl (by decide) rfl
  have bp := hor2 bp
  obtain ⟨sd, es, bs, zs⟩ := I1.ref (k := 6) ht (by decide) (n := 10) rfl (by decide) rfl
  have bs : g1 sd = 35 := Nat.eq_of_beq_eq_true bs
  have hkd : ev_kd μ1 p = some 2 := by
    rcases bp with h | h
    · exact I1.kd h (by decide) (n := 8) rfl
    · exact I1.kd h (by decide) (n := 8) rfl
  refine w_t (np := 43) (l2 := [some (eR a0), some (eI (2)), o, none]) (s2 := [eR a0]) rfl (s_an rfl pa) rfl ?_
  refine w_gf (np := 46) (v := eR t) rfl rfl (I1.kd ha (by decide) (n := 4) rfl) (by rw [et]; rfl) ?_
  refine w_gf (np := 49) (v := eR p) rfl rfl (I1.kd ht (by decide) (n := 10) rfl) (by rw [ep]; rfl) ?_
  refine w_t (np := 50) (l2 := [some (eR a0), some (eI (2)), o, none]) (s2 := [eI (2), eR p]) rfl rfl rfl ?_
  refine w_cw (np := 53) (as := [eI (2)]) (l2 := [some (eR p), some (eI (2)), none]) (rest := []) rfl rfl rfl (Nat.ble_eq.mp rfl) rfl rfl rfl hkd rfl ?_
  have tail : ∀ (μ2 : eM), SI g1 μ2 → Fr l_14 0 0 g1 μ1 μ2 → μ2.1 r 2 = 0 → μ2.1 a0 3 = (t : Int) → ex_q (dt_fg L ρ) rc (d + 6, (14, 53, [some (eR a0), some (eI (2)), o, none], []), f :: F, μ2) := by
    intro μ2 I2 F2 e02 et2
    refine w_t (np := 54) (l2 := [some (eR a0), some (eI (2)), o, none]) (s2 := [eI (0)]) rfl rfl rfl ?_
    refine w_t (np := 55) (l2 := [some (eR a0), some (eI (2)), some (eI (0)), none]) (s2 := []) rfl rfl rfl ?_
    have hphi : PHI g1 μ2 p ≤ 7766 := by
      unfold PHI
      split <;> split <;> omega
    refine s_14L_2 (s0 := s1) (μ := μ) (g := g) (t := t) (p := p) (sd := sd) (r := r) (fun g2 μ3 c s P3 I3 F3 hc hs et3 ht3 => K g2 μ3 t c s P3 I3 F3 hc ?_ et3 ht3) 6 0 g1 μ2 none c1 s1 E1.p I2 ha ht bs hr bp et2 (F2.k ep ht (by decide) rfl) (F2.k es ht (by decide) rfl) (F2.k er ha (by decide) rfl) ⟨0, e02, by decide⟩ ?_ (by decide) rfl ?_ (by omega)
    · rcases hw with ⟨h1, h2, h3⟩ | ⟨h1, h2, h3⟩
      · exact Or.inl (by omega)
      · exact Or.inr ⟨h1, by omega⟩
    · exact ((Fr.r (l := l_14)).t3 hI.re F1 rfl |>.t3 E1 F2 rfl).zz
    · rcases hw with ⟨h1, h2, h3⟩ | ⟨h1, h2, h3⟩ <;> omega
  rcases bp with gp | gp
  · refine s_26 (a1 := 2) I1 gp (by decide) rfl ?_
    intro m co2 I2 F2 _ _
    exact tail m I2 (Fr.r.t F2 rfl) (F2.kr e0 hr (by decide) rfl rfl) (F2.k et ha (by decide) rfl)
  · refine s_26_2 (a1 := 2) I1 gp (by decide) rfl ?_
    intro m co2 I2 F2 _ _
    exact tail m I2 (Fr.r.t F2 rfl) (F2.kr e0 hr (by decide) rfl rfl) (F2.k et ha (by decide) rfl)
theorem s_14_3 {L : Nat} {ρ : Nat → Int} {rc : eQ} {d : Nat} {f : eFr} {F : List eFr} {μ : eM} {g : Nat → Nat} {a0 : Nat} (hI : SI g μ) (gA0 : g a0 = 48) (K : ∀ (g2 : Nat → Nat) (μ2 : eM) (t c s : Nat), GP g g2 → SI g2 μ2 → Fr l_14 c s g μ μ2 → c ≤ 240 → (s ≤ 7766 ∨ μ.1 a0 3 = 0 ∧ s ≤ 19166) → μ2.1 a0 3 = (t : Int) → g2 t = 42 → ex_q (dt_fg L ρ) rc (d + 7, (f.1, f.2.1, f.2.2.1, f.2.2.2), F, μ2)) : ex_q (dt_fg L ρ) rc (d + 6, (14, 0, [some (eR a0), some (eI (3)), none, none], []), f :: F, μ) := by
  refine s_14p_3 hI gA0 ?_
  intro g1 μ1 t r o c1 s1 E1 I1 F1 hw ht et er hr e0
  have ha := E1.g gA0 (by decide)
  have pa := pos_g I1 ha (by decide)
  obtain ⟨p, ep, bp, zp⟩ := I1.ref (k := 5) ht (by decide) (n := 10) rfl (by decide) rfl
  have bp := hor2 bp
  obtain ⟨sd, es, bs, zs⟩ := I1.ref (k := 6) ht (by decide) (n := 10) rfl (by decide) rfl
  have bs : g1 sd = 35 := Nat.eq_of_beq_eq_true bs
  have hkd : ev_kd μ1 p = some 2 := by
    rcases bp with h | h
    · exact I1.kd h (by decide) (n := 8) rfl
    · exact I1.kd h (by decide) (n := 8) rfl
  refine w_t (np := 43) (l2 := [some (eR a0), some (eI (3)), o, none]) (s2 := [eR a0]) rfl (s_an rfl pa) rfl ?_
  refine w_gf (np := 46) (v := eR t) rfl rfl (I1.kd ha (by decide) (n := 4) rfl) (by rw [et]; rfl) ?_
  refine w_gf (np := 49) (v := eR p) rfl rfl (I1.kd ht (by decide) (n := 10) rfl) (by rw [ep]; rfl) ?_
  refine w_t (np := 50) (l2 := [some (eR a0), some (eI (3)), o, none]) (s2 := [eI (3), eR p]) rfl rfl rfl ?_
  refine w_cw (np := 53) (as := [eI (3)]) (l2 := [some (eR p), some (eI (3)), none]) (rest := []) rfl rfl rfl (Nat.ble_eq.mp rfl) rfl rfl rfl hkd rfl ?_
  have tail : ∀ (μ2 : eM), SI g1 μ2 → Fr l_14 0 0 g1 μ1 μ2 → μ2.1 r 3 = 0 → μ2.1 a0 3 = (t : Int) → ex_q (dt_fg L ρ) rc (d + 6, (14, 53, [some (eR a0), some (eI (3)), o, none], []), f :: F, μ2) := by
    intro μ2 I2 F2 e02 et2
    refine w_t (np := 54) (l2 := [some (eR a0), some (eI (3)), o, none]) (s2 := [eI (0)]) rfl rfl rfl ?_
    refine w_t (np := 55) (l2 := [some (eR a0), some (eI (3)), some (eI (0)), none]) (s2 := []) rfl rfl rfl ?_
    have hphi : PHI g1 μ2 p ≤ 7766 := by
      unfold PHI
      split <;> split <;> omega
    refine s_14L_3 (s0 := s1) (μ := μ) (g := g) (t := t) (p := p) (sd := sd) (r := r) (fun g2 μ3 c s P3 I3 F3 hc hs et3 ht3 => K g2 μ3 t c s P3 I3 F3 hc ?_ et3 ht3) 6 0 g1 μ2 none c1 s1 E1.p I2 ha ht bs hr bp et2 (F2.k ep ht (by decide) rfl) (F2.k es ht (by decide) rfl) (F2.k er ha (by decide) rfl) ⟨0, e02, by decide⟩ ?_ (by decide) rfl ?_ (by omega)
    · rcases hw with ⟨h1, h2, h3⟩ | ⟨h1, h2, h3⟩
      · exact Or.inl (by omega)
      · exact Or.inr ⟨h1, by omega⟩
    · exact ((Fr.r (l := l_14)).t3 hI.re F1 rfl |>.t3 E1 F2 rfl).zz
    · rcases hw with ⟨h1, h2, h3⟩ | ⟨h1, h2, h3⟩ <;> omega
  rcases bp with gp | gp
  · refine s_26 (a1 := 3) I1 gp (by decide) rfl ?_
    intro m co2 I2 F2 _ _
    exact tail m I2 (Fr.r.t F2 rfl) (F2.kr e0 hr (by decide) rfl rfl) (F2.k et ha (by decide) rfl)
  · refine s_26_2 (a1 := 3) I1 gp (by decide) rfl ?_
    intro m co2 I2 F2 _ _
    exact tail m I2 (Fr.r.t F2 rfl) (F2.kr e0 hr (by decide) rfl rfl) (F2.k et ha (by decide) rfl)
