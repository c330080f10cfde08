/-! cutAll -/
def l_31 : List Nat := [513, 514, 515, 516, 519, 520, 768, 1024, 1280, 1536, 1799, 1800, 2048, 2304, 2560, 2816, 3073, 3074, 3075, 3328, 3584, 3843, 4096, 4352]
theorem l_31p (k : Nat) (h : fc 7 k ∈ l_31) : fc 2 k ∈ l_31 := by
  have e : fc 7 k = 1793 + k % 255 := (if_neg (by decide)).trans (by omega)
  have e2 : fc 2 k = 513 + k % 255 := (if_neg (by decide)).trans (by omega)
  rw [e] at h
  rw [e2]
  unfold l_31 at h ⊢
  simp only [List.mem_cons, List.not_mem_nil, or_false] at h ⊢
  omega
theorem l_31q (k : Nat) (h : fc 15 k ∈ l_31) : fc 12 k ∈ l_31 := by
  have e : fc 15 k = 3841 + k % 255 := (if_neg (by decide)).trans (by omega)
  have e2 : fc 12 k = 3073 + k % 255 := (if_neg (by decide)).trans (by omega)
  rw [e] at h
  rw [e2]
  unfold l_31 at h ⊢
  simp only [List.mem_cons, List.not_mem_nil, or_false] at h ⊢
  omega
/-- what a patch may still take of the room -/
def PHI (g : Nat → Nat) (μ : eM) (a0 : Nat) : Nat := (if g a0 = 2 then 6230 else 0) + (if g (μ.1 a0 4).toNat = 12 then 1536 else 0)
theorem PHI_v {g : Nat → Nat} {μ : eM} {a0 p : Nat} (h : μ.1 a0 4 = (p : Int)) : PHI g μ a0 = (if g a0 = 2 then 6230 else 0) + (if g p = 12 then 1536 else 0) := by
  unfold PHI
  rw [h, Int.toNat_natCast]
theorem s_31_ss {L : Nat} {ρ : Nat → Int} {rc : eQ} {d : Nat} {f : eFr} {F : List eFr} {μ : eM} {g : Nat → Nat} {a0 p : Nat} {de : Int} (hI : SI g μ) (gA0 : g a0 = 2) (hpt : μ.1 a0 4 = (p : Int)) (gp : g p = 12) (hde : μ.1 a0 6 = de) (hd4 : de ≤ 4) (K : ∀ (g2 : Nat → Nat) (μ2 : eM) (c s : Nat), GP g g2 → SI g2 μ2 → Fr l_31 c s g μ μ2 → c ≤ 6 → s + PHI g2 μ2 a0 ≤ PHI g μ a0 → (g2 a0 = 2 ∨ g2 a0 = 7) → ex_q (dt_fg L ρ) rc (d + 5, (f.1, f.2.1, f.2.2.1, f.2.2.2), F, μ2)) : ex_q (dt_fg L ρ) rc (d + 4, (31, 0, [some (eR a0), none, none, none], []), f :: F, μ) := by
  obtain ⟨co, eco, bco⟩ := hI.pk (k := 7) gA0 (by decide) (n := 8) rfl rfl (lo := 0) (hi := 50) rfl
  obtain ⟨q0, e0, b0, z0⟩ := hI.ref (k := 0) gA0 (by decide) (n := 8) rfl (by decide) rfl
  have b0 : g q0 = 3 := Nat.eq_of_beq_eq_true b0
  have pa := pos_g hI gA0 (by decide)
  have hap : a0 ≠ p := fun z => by rw [z, gp] at gA0; cases gA0
  have ePHI : PHI g μ a0 = 6230 + 1536 := by rw [PHI_v hpt, gA0, gp]; rfl
  have hpar : 0 < p := pos_g hI gp (by decide)
  refine w_t (np := 1) (l2 := [some (eR a0), none, none, none]) (s2 := [eI (2)]) rfl rfl rfl ?_
  refine w_t (np := 2) (l2 := [some (eR a0), none, none, none]) (s2 := [eR a0, eI (2)]) rfl (s_an rfl pa) rfl ?_
  refine w_gf (np := 5) (v := eI (co)) rfl rfl (hI.kd gA0 (by decide) (n := 8) rfl) (by rw [eco]; rfl) ?_
  obtain ⟨v1, ev1⟩ : ∃ zz : Int, zz = (2) * (co) := ⟨_, rfl⟩
  refine w_t (np := 6) (l2 := [some (eR a0), none, none, none]) (s2 := [eI (v1)]) rfl (b_imul (by rw [← ev1]; exact ev_w_in (by omega) (by omega))) rfl ?_
  refine w_t (np := 7) (l2 := [some (eR a0), none, none, none]) (s2 := [eR a0, eI (v1)]) rfl (s_an rfl pa) rfl ?_
  refine w_t (np := 8) (l2 := [some (eR a0), none, none, none]) (s2 := [eI (1), eR a0, eI (v1)]) rfl rfl rfl ?_
  refine w_cw (np := 11) (as := [eI (1)]) (l2 := [some (eR a0), some (eI (1)), none, none]) (rest := [eI (v1)]) rfl rfl rfl (Nat.ble_eq.mp rfl) rfl rfl rfl (hI.kd gA0 (by decide) (n := 8) rfl) rfl ?_
  refine s_25k (a1 := 1) hI gA0 (by decide) eco ?_
  intro v2 b2 h2
  show ex_q (dt_fg L ρ) rc (d + 4, (31, 11, [some (eR a0), none, none, none], [eI v2, eI (v1)]), f :: F, μ)
  obtain ⟨v3, ev3⟩ : ∃ zz : Int, zz = (v1) + (v2) := ⟨_, rfl⟩
  refine w_t (np := 12) (l2 := [some (eR a0), none, none, none]) (s2 := [eI (v3)]) rfl (b_iadd (by rw [← ev3]; exact ev_w_in (by omega) (by omega))) rfl ?_
  refine w_t (np := 13) (l2 := [some (eR a0), some (eI (v3)), none, none]) (s2 := []) rfl rfl rfl ?_
  have hv3 : v3 = 2 * co + (fcnt (fun x => μ.1 (μ.1 a0 0).toNat x - 1) co.toNat : Int) := by omega
  clear h2
  refine w_t (np := 14) (l2 := [some (eR a0), some (eI (v3)), none, none]) (s2 := [eI (v3)]) rfl rfl rfl ?_
  refine w_t (np := 17) (l2 := [some (eR a0), some (eI (v3)), none, none]) (s2 := [eI (890), eI (v3)]) rfl rfl rfl ?_
  refine b_cle (t1 := 21) (t2 := 20) rfl rfl rfl (ev_w_in (by omega) (by omega)) rfl (fun g8 => ?_) (fun _ => v_rv rfl rfl (K g μ 0 0 hI.re.p hI Fr.r (by decide) (by omega) (Or.inl gA0)))
  have b3 : 0 ≤ v3 ∧ v3 ≤ 890 := by omega
  refine w_t (np := 22) (l2 := [some (eR a0), some (eI (v3)), none, none]) (s2 := [eI (v3)]) rfl rfl rfl ?_
  refine w_t (np := 23) (l2 := [some (eR a0), some (eI (v3)), none, none]) (s2 := [eR a0, eI (v3)]) rfl (s_an rfl pa) rfl ?_
  refine w_gf (np := 26) (v := eR q0) rfl rfl (hI.kd gA0 (by decide) (n := 8) rfl) (by rw [e0]; rfl) ?_
  refine j_len (np := 27) rfl rfl hI b0 (by decide) (c := 100) (n := 50) rfl rfl rfl ?_
  rw [show ((50 : Nat) : Int) = 50 from rfl]
  have F00 : Fr l_31 0 0 g μ μ := Fr.r
  refine b_cle (t1 := 34) (t2 := 30) rfl rfl rfl (ev_w_in (by omega) (by omega)) rfl (fun g9 => ?_) (fun g9 => ?_)
  · have hfc := (show v3 = 2 * co + (fcnt (fun x => μ.1 q0 x - 1) co.toNat : Int) by rw [e0, Int.toNat_natCast] at hv3; exact hv3)
    refine w_t (np := 35) (l2 := [some (eR a0), some (eI (v3)), none, none]) (s2 := [eR a0]) rfl (s_an rfl pa) rfl ?_
    refine w_gf (np := 38) (v := eR p) rfl rfl (hI.kd gA0 (by decide) (n := 8) rfl) (by rw [hpt]; rfl) ?_
    refine w_t (np := 39) (l2 := [some (eR a0), some (eI (v3)), none, none]) (s2 := [eI (v3), eR p]) rfl rfl rfl ?_
    refine w_cw (np := 42) (as := [eI (v3)]) (l2 := [some (eR p), some (eI (v3)), none]) (rest := []) rfl rfl rfl (Nat.ble_eq.mp rfl) rfl rfl rfl (hI.kd gp (by decide) (n := 3) rfl) rfl ?_
    refine s_47 hI gp (by omega) ?_
    intro gB mB cB sB PB IB FB hB XB
    have gaB : gB a0 = 2 := (XB a0 (by rw [gA0]; decide) hap).trans gA0
    have FT : Fr l_31 (0 + cB) (0 + sB) g μ mB := F00.p hI.re.p FB rfl l_31p l_31q
    show ex_q (dt_fg L ρ) rc (d + 4, (31, 42, [some (eR a0), some (eI (v3)), none, none], []), f :: F, mB)
    have coB := (FB.k eco gA0 (by decide) rfl)
    have deB := (FB.k hde gA0 (by decide) rfl)
    have ptB := (FB.k hpt gA0 (by decide) rfl)
    have kB := FB.k e0 gA0 (by decide) rfl
    have hfB : v3 = 2 * co + (fcnt (fun x => mB.1 (mB.1 a0 0).toNat x - 1) co.toNat : Int) := by
      rw [hfc, kB, Int.toNat_natCast, fcnt_c co.toNat (r := μ.1 q0) (r2 := mB.1 q0) (fun j _ => FB.kr rfl b0 (by decide) rfl rfl)]
    refine s_31t (a1 := v3) IB gaB (by omega) coB deB hd4 hfB ?_
    intro mC co2 de2 IC FC e1 e2 h1 h2
    have ptC := FC.k ptB gaB (by decide) rfl
    refine K gB mC _ _ PB IC (FT.p PB FC rfl l_31p l_31q) (by omega) ?_ (Or.inl gaB)
    rw [ePHI, PHI_v ptC, gaB]
    rcases hB with ⟨x1, x2, x3⟩ | ⟨x1, x2, x3⟩
    · rw [x1, x3]; decide
    · rw [x1, x3]; decide
  · refine w_t (np := 31) (l2 := [some (eR a0), some (eI (v3)), none, none]) (s2 := [eR a0]) rfl (s_an rfl pa) rfl ?_
    refine w_cw (np := 34) (as := []) (l2 := [some (eR a0)]) (rest := []) rfl rfl rfl (Nat.ble_eq.mp rfl) rfl rfl rfl (hI.kd gA0 (by decide) (n := 8) rfl) rfl ?_
    refine s_17 hI gA0 ?_
    intro gA mA qQ qR PA IA FA gaA eQ eR2 hc bQ gR XA
    show ex_q (dt_fg L ρ) rc (d + 4, (31, 34, [some (eR a0), some (eI (v3)), none, none], []), f :: F, mA)
    have eqq : qQ = q0 := by rw [e0] at eQ; omega
    subst eqq
    have gpA := (XA p (by rw [gp]; decide) (fun z => hap z.symm)).trans gp
    have ptA := FA.k hpt gA0 (by decide) rfl
    have coA := FA.k eco gA0 (by decide) rfl
    have deA := FA.k hde gA0 (by decide) rfl
    have hfc : v3 = 2 * co + (fcnt (fun x => mA.1 qR x - 1) co.toNat : Int) := by
      rw [fcnt_c co.toNat (r := μ.1 qQ) (r2 := mA.1 qR) (fun j hj => hc j (by omega))]
      rw [e0, Int.toNat_natCast] at hv3
      exact hv3
    have F01 : Fr l_31 4 6230 g μ mA := F00.t FA rfl
    refine w_t (np := 35) (l2 := [some (eR a0), some (eI (v3)), none, none]) (s2 := [eR a0]) rfl (s_an rfl pa) rfl ?_
    refine w_gf (np := 38) (v := eR p) rfl rfl (IA.kd gaA (by decide) (n := 8) rfl) (by rw [ptA]; rfl) ?_
    refine w_t (np := 39) (l2 := [some (eR a0), some (eI (v3)), none, none]) (s2 := [eI (v3), eR p]) rfl rfl rfl ?_
    refine w_cw (np := 42) (as := [eI (v3)]) (l2 := [some (eR p), some (eI (v3)), none]) (rest := []) rfl rfl rfl (Nat.ble_eq.mp rfl) rfl rfl rfl (IA.kd gpA (by decide) (n := 3) rfl) rfl ?_
    refine s_47 IA gpA (by omega) ?_
    intro gB mB cB sB PB IB FB hB XB
    have gaB : gB a0 = 7 := (XB a0 (by rw [gaA]; decide) hap).trans gaA
    have FT : Fr l_31 (4 + cB) (6230 + sB) g μ mB := F01.p PA FB rfl l_31p l_31q
    show ex_q (dt_fg L ρ) rc (d + 4, (31, 42, [some (eR a0), some (eI (v3)), none, none], []), f :: F, mB)
    have coB := (FB.k coA gaA (by decide) rfl)
    have deB := (FB.k deA gaA (by decide) rfl)
    have ptB := (FB.k ptA gaA (by decide) rfl)
    have kB := FB.k eR2 gaA (by decide) rfl
    have hfB : v3 = 2 * co + (fcnt (fun x => mB.1 (mB.1 a0 0).toNat x - 1) co.toNat : Int) := by
      rw [hfc, kB, Int.toNat_natCast, fcnt_c co.toNat (r := mA.1 qR) (r2 := mB.1 qR) (fun j _ => FB.kr rfl gR (by decide) rfl rfl)]
    refine s_31u (a1 := v3) IB gaB (by omega) coB deB hd4 hfB ?_
    intro mC co2 de2 IC FC e1 e2 h1 h2
    have ptC := FC.k ptB gaB (by decide) rfl
    refine K gB mC _ _ (PA.t PB) IC (FT.p (PA.t PB) FC rfl l_31p l_31q) (by omega) ?_ (Or.inr gaB)
    rw [ePHI, PHI_v ptC, gaB]
    rcases hB with ⟨x1, x2, x3⟩ | ⟨x1, x2, x3⟩
    · rw [x1, x3]; decide
    · rw [x1, x3]; decide
theorem s_31_sb {L : Nat} {ρ : Nat → Int} {rc : eQ} {d : Nat} {f : eFr} {F : List eFr} {μ : eM} {g : Nat → Nat} {a0 p : Nat} {de : Int} (hI : SI g μ) (gA0 : g a0 = 2) (hpt : μ.1 a0 4 = (p : Int)) (gp : g p = 15) (hde : μ.1 a0 6 = de) (hd4 : de ≤ 4) (K : ∀ (g2 : Nat → Nat) (μ2 : eM) (c s : Nat), GP g g2 → SI g2 μ2 → Fr l_31 c s g μ μ2 → c ≤ 6 → s + PHI g2 μ2 a0 ≤ PHI g μ a0 → (g2 a0 = 2 ∨ g2 a0 = 7) → ex_q (dt_fg L ρ) rc (d + 5, (f.1, f.2.1, f.2.2.1, f.2.2.2), F, μ2)) : ex_q (dt_fg L ρ) rc (d + 4, (31, 0, [some (eR a0), none, none, none], []), f :: F, μ) := by
  obtain ⟨co, eco, bco⟩ := hI.pk (k := 7) gA0 (by decide) (n := 8) rfl rfl (lo := 0) (hi := 50) rfl
  obtain ⟨q0, e0, b0, z0⟩ := hI.ref (k := 0) gA0 (by decide) (n := 8) rfl (by decide) rfl
  have b0 : g q0 = 3 := Nat.eq_of_beq_eq_true b0
  have pa := pos_g hI gA0 (by decide)
  have hap : a0 ≠ p := fun z => by rw [z, gp] at gA0; cases gA0
  have ePHI : PHI g μ a0 = 6230 + 0 := by rw [PHI_v hpt, gA0, gp]; rfl
  have hpar : 0 < p := pos_g hI gp (by decide)
  refine w_t (np := 1) (l2 := [some (eR a0), none, none, none]) (s2 := [eI (2)]) rfl rfl rfl ?_
  refine w_t (np := 2) (l2 := [some (eR a0), none, none, none]) (s2 := [eR a0, eI (2)]) rfl (s_an rfl pa) rfl ?_
  refine w_gf (np := 5) (v := eI (co)) rfl rfl (hI.kd gA0 (by decide) (n := 8) rfl) (by rw [eco]; rfl) ?_
  obtain ⟨v1, ev1⟩ : ∃ zz : Int, zz = (2) * (co) := ⟨_, rfl⟩
  refine w_t (np := 6) (l2 := [some (eR a0), none, none, none]) (s2 := [eI (v1)]) rfl (b_imul (by rw [← ev1]; exact ev_w_in (by omega) (by omega))) rfl ?_
  refine w_t (np := 7) (l2 := [some (eR a0), none, none, none]) (s2 := [eR a0, eI (v1)]) rfl (s_an rfl pa) rfl ?_
  refine w_t (np := 8) (l2 := [some (eR a0), none, none, none]) (s2 := [eI (1), eR a0, eI (v1)]) rfl rfl rfl ?_
  refine w_cw (np := 11) (as := [eI (1)]) (l2 := [some (eR a0), some (eI (1)), none, none]) (rest := [eI (v1)]) rfl rfl rfl (Nat.ble_eq.mp rfl) rfl rfl rfl (hI.kd gA0 (by decide) (n := 8) rfl) rfl ?_
  refine s_25k (a1 := 1) hI gA0 (by decide) eco ?_
  intro v2 b2 h2
  show ex_q (dt_fg L ρ) rc (d + 4, (31, 11, [some (eR a0), none, none, none], [eI v2, eI (v1)]), f :: F, μ)
  obtain ⟨v3, ev3⟩ : ∃ zz : Int, zz = (v1) + (v2) := ⟨_, rfl⟩
  refine w_t (np := 12) (l2 := [some (eR a0), none, none, none]) (s2 := [eI (v3)]) rfl (b_iadd (by rw [← ev3]; exact ev_w_in (by omega) (by omega))) rfl ?_
  refine w_t (np := 13) (l2 := [some (eR a0), some (eI (v3)), none, none]) (s2 := []) rfl rfl rfl ?_
  have hv3 : v3 = 2 * co + (fcnt (fun x => μ.1 (μ.1 a0 0).toNat x - 1) co.toNat : Int) := by omega
  clear h2
  refine w_t (np := 14) (l2 := [some (eR a0), some (eI (v3)), none, none]) (s2 := [eI (v3)]) rfl rfl rfl ?_
  refine w_t (np := 17) (l2 := [some (eR a0), some (eI (v3)), none, none]) (s2 := [eI (890), eI (v3)]) rfl rfl rfl ?_
  refine b_cle (t1 := 21) (t2 := 20) rfl rfl rfl (ev_w_in (by omega) (by omega)) rfl (fun g8 => ?_) (fun _ => v_rv rfl rfl (K g μ 0 0 hI.re.p hI Fr.r (by decide) (by omega) (Or.inl gA0)))
  have b3 : 0 ≤ v3 ∧ v3 ≤ 890 := by omega
  refine w_t (np := 22) (l2 := [some (eR a0), some (eI (v3)), none, none]) (s2 := [eI (v3)]) rfl rfl rfl ?_
  refine w_t (np := 23) (l2 := [some (eR a0), some (eI (v3)), none, none]) (s2 := [eR a0, eI (v3)]) rfl (s_an rfl pa) rfl ?_
  refine w_gf (np := 26) (v := eR q0) rfl rfl (hI.kd gA0 (by decide) (n := 8) rfl) (by rw [e0]; rfl) ?_
  refine j_len (np := 27) rfl rfl hI b0 (by decide) (c := 100) (n := 50) rfl rfl rfl ?_
  rw [show ((50 : Nat) : Int) = 50 from rfl]
  have F00 : Fr l_31 0 0 g μ μ := Fr.r
  refine b_cle (t1 := 34) (t2 := 30) rfl rfl rfl (ev_w_in (by omega) (by omega)) rfl (fun g9 => ?_) (fun g9 => ?_)
  · have hfc := (show v3 = 2 * co + (fcnt (fun x => μ.1 q0 x - 1) co.toNat : Int) by rw [e0, Int.toNat_natCast] at hv3; exact hv3)
    refine w_t (np := 35) (l2 := [some (eR a0), some (eI (v3)), none, none]) (s2 := [eR a0]) rfl (s_an rfl pa) rfl ?_
    refine w_gf (np := 38) (v := eR p) rfl rfl (hI.kd gA0 (by decide) (n := 8) rfl) (by rw [hpt]; rfl) ?_
    refine w_t (np := 39) (l2 := [some (eR a0), some (eI (v3)), none, none]) (s2 := [eI (v3), eR p]) rfl rfl rfl ?_
    refine w_cw (np := 42) (as := [eI (v3)]) (l2 := [some (eR p), some (eI (v3)), none]) (rest := []) rfl rfl rfl (Nat.ble_eq.mp rfl) rfl rfl rfl (hI.kd gp (by decide) (n := 3) rfl) rfl ?_
    refine s_47b hI gp (by omega) ?_
    intro mB IB FB
    have gaB := gA0
    have FT : Fr l_31 0 0 g μ mB := F00.p hI.re.p FB rfl l_31p l_31q
    show ex_q (dt_fg L ρ) rc (d + 4, (31, 42, [some (eR a0), some (eI (v3)), none, none], []), f :: F, mB)
    have coB := (FB.k eco gA0 (by decide) rfl)
    have deB := (FB.k hde gA0 (by decide) rfl)
    have ptB := (FB.k hpt gA0 (by decide) rfl)
    have kB := FB.k e0 gA0 (by decide) rfl
    have hfB : v3 = 2 * co + (fcnt (fun x => mB.1 (mB.1 a0 0).toNat x - 1) co.toNat : Int) := by
      rw [hfc, kB, Int.toNat_natCast, fcnt_c co.toNat (r := μ.1 q0) (r2 := mB.1 q0) (fun j _ => FB.kr rfl b0 (by decide) rfl rfl)]
    refine s_31t (a1 := v3) IB gaB (by omega) coB deB hd4 hfB ?_
    intro mC co2 de2 IC FC e1 e2 h1 h2
    have ptC := FC.k ptB gaB (by decide) rfl
    refine K g mC _ _ hI.re.p IC (FT.p hI.re.p FC rfl l_31p l_31q) (by omega) ?_ (Or.inl gaB)
    rw [ePHI, PHI_v ptC, gaB]
    rw [gp]; decide
  · refine w_t (np := 31) (l2 := [some (eR a0), some (eI (v3)), none, none]) (s2 := [eR a0]) rfl (s_an rfl pa) rfl ?_
    refine w_cw (np := 34) (as := []) (l2 := [some (eR a0)]) (rest := []) rfl rfl rfl (Nat.ble_eq.mp rfl) rfl rfl rfl (hI.kd gA0 (by decide) (n := 8) rfl) rfl ?_
    refine s_17 hI gA0 ?_
    intro gA mA qQ qR PA IA FA gaA eQ eR2 hc bQ gR XA
    show ex_q (dt_fg L ρ) rc (d + 4, (31, 34, [some (eR a0), some (eI (v3)), none, none], []), f :: F, mA)
    have eqq : qQ = q0 := by rw [e0] at eQ; omega
    subst eqq
    have gpA := (XA p (by rw [gp]; decide) (fun z => hap z.symm)).trans gp
    have ptA := FA.k hpt gA0 (by decide) rfl
    have coA := FA.k eco gA0 (by decide) rfl
    have deA := FA.k hde gA0 (by decide) rfl
    have hfc : v3 = 2 * co + (fcnt (fun x => mA.1 qR x - 1) co.toNat : Int) := by
      rw [fcnt_c co.toNat (r := μ.1 qQ) (r2 := mA.1 qR) (fun j hj => hc j (by omega))]
      rw [e0, Int.toNat_natCast] at hv3
      exact hv3
    have F01 : Fr l_31 4 6230 g μ mA := F00.t FA rfl
    refine w_t (np := 35) (l2 := [some (eR a0), some (eI (v3)), none, none]) (s2 := [eR a0]) rfl (s_an rfl pa) rfl ?_
    refine w_gf (np := 38) (v := eR p) rfl rfl (IA.kd gaA (by decide) (n := 8) rfl) (by rw [ptA]; rfl) ?_
    refine w_t (np := 39) (l2 := [some (eR a0), some (eI (v3)), none, none]) (s2 := [eI (v3), eR p]) rfl rfl rfl ?_
    refine w_cw (np := 42) (as := [eI (v3)]) (l2 := [some (eR p), some (eI (v3)), none]) (rest := []) rfl rfl rfl (Nat.ble_eq.mp rfl) rfl rfl rfl (IA.kd gpA (by decide) (n := 3) rfl) rfl ?_
    refine s_47b IA gpA (by omega) ?_
    intro mB IB FB
    have gaB := gaA
    have FT : Fr l_31 4 6230 g μ mB := F01.p PA FB rfl l_31p l_31q
    show ex_q (dt_fg L ρ) rc (d + 4, (31, 42, [some (eR a0), some (eI (v3)), none, none], []), f :: F, mB)
    have coB := (FB.k coA gaA (by decide) rfl)
    have deB := (FB.k deA gaA (by decide) rfl)
    have ptB := (FB.k ptA gaA (by decide) rfl)
    have kB := FB.k eR2 gaA (by decide) rfl
    have hfB : v3 = 2 * co + (fcnt (fun x => mB.1 (mB.1 a0 0).toNat x - 1) co.toNat : Int) := by
      rw [hfc, kB, Int.toNat_natCast, fcnt_c co.toNat (r := mA.1 qR) (r2 := mB.1 qR) (fun j _ => FB.kr rfl gR (by decide) rfl rfl)]
    refine s_31u (a1 := v3) IB gaB (by omega) coB deB hd4 hfB ?_
    intro mC co2 de2 IC FC e1 e2 h1 h2
    have ptC := FC.k ptB gaB (by decide) rfl
    refine K gA mC _ _ PA IC (FT.p PA FC rfl l_31p l_31q) (by omega) ?_ (Or.inr gaB)
    rw [ePHI, PHI_v ptC, gaB]
    rw [gpA]; decide
theorem s_31_bs {L : Nat} {ρ : Nat → Int} {rc : eQ} {d : Nat} {f : eFr} {F : List eFr} {μ : eM} {g : Nat → Nat} {a0 p : Nat} {de : Int} (hI : SI g μ) (gA0 : g a0 = 7) (hpt : μ.1 a0 4 = (p : Int)) (gp : g p = 12) (hde : μ.1 a0 6 = de) (hd4 : de ≤ 4) (K : ∀ (g2 : Nat → Nat) (μ2 : eM) (c s : Nat), GP g g2 → SI g2 μ2 → Fr l_31 c s g μ μ2 → c ≤ 6 → s + PHI g2 μ2 a0 ≤ PHI g μ a0 → (g2 a0 = 2 ∨ g2 a0 = 7) → ex_q (dt_fg L ρ) rc (d + 5, (f.1, f.2.1, f.2.2.1, f.2.2.2), F, μ2)) : ex_q (dt_fg L ρ) rc (d + 4, (31, 0, [some (eR a0), none, none, none], []), f :: F, μ) := by
  obtain ⟨co, eco, bco⟩ := hI.pk (k := 7) gA0 (by decide) (n := 8) rfl rfl (lo := 0) (hi := 890) rfl
  obtain ⟨q0, e0, b0, z0⟩ := hI.ref (k := 0) gA0 (by decide) (n := 8) rfl (by decide) rfl
  have b0 : g q0 = 8 := Nat.eq_of_beq_eq_true b0
  have pa := pos_g hI gA0 (by decide)
  have hap : a0 ≠ p := fun z => by rw [z, gp] at gA0; cases gA0
  have ePHI : PHI g μ a0 = 0 + 1536 := by rw [PHI_v hpt, gA0, gp]; rfl
  have hpar : 0 < p := pos_g hI gp (by decide)
  refine w_t (np := 1) (l2 := [some (eR a0), none, none, none]) (s2 := [eI (2)]) rfl rfl rfl ?_
  refine w_t (np := 2) (l2 := [some (eR a0), none, none, none]) (s2 := [eR a0, eI (2)]) rfl (s_an rfl pa) rfl ?_
  refine w_gf (np := 5) (v := eI (co)) rfl rfl (hI.kd gA0 (by decide) (n := 8) rfl) (by rw [eco]; rfl) ?_
  obtain ⟨v1, ev1⟩ : ∃ zz : Int, zz = (2) * (co) := ⟨_, rfl⟩
  refine w_t (np := 6) (l2 := [some (eR a0), none, none, none]) (s2 := [eI (v1)]) rfl (b_imul (by rw [← ev1]; exact ev_w_in (by omega) (by omega))) rfl ?_
  refine w_t (np := 7) (l2 := [some (eR a0), none, none, none]) (s2 := [eR a0, eI (v1)]) rfl (s_an rfl pa) rfl ?_
  refine w_t (np := 8) (l2 := [some (eR a0), none, none, none]) (s2 := [eI (1), eR a0, eI (v1)]) rfl rfl rfl ?_
  refine w_cw (np := 11) (as := [eI (1)]) (l2 := [some (eR a0), some (eI (1)), none, none]) (rest := [eI (v1)]) rfl rfl rfl (Nat.ble_eq.mp rfl) rfl rfl rfl (hI.kd gA0 (by decide) (n := 8) rfl) rfl ?_
  refine s_25k_2 (a1 := 1) hI gA0 (by decide) eco ?_
  intro v2 b2 h2
  show ex_q (dt_fg L ρ) rc (d + 4, (31, 11, [some (eR a0), none, none, none], [eI v2, eI (v1)]), f :: F, μ)
  obtain ⟨v3, ev3⟩ : ∃ zz : Int, zz = (v1) + (v2) := ⟨_, rfl⟩
  refine w_t (np := 12) (l2 := [some (eR a0), none, none, none]) (s2 := [eI (v3)]) rfl (b_iadd (by rw [← ev3]; exact ev_w_in (by omega) (by omega))) rfl ?_
  refine w_t (np := 13) (l2 := [some (eR a0), some (eI (v3)), none, none]) (s2 := []) rfl rfl rfl ?_
  have hv3 : v3 = 2 * co + (fcnt (fun x => μ.1 (μ.1 a0 0).toNat x - 1) co.toNat : Int) := by omega
  clear h2
  refine w_t (np := 14) (l2 := [some (eR a0), some (eI (v3)), none, none]) (s2 := [eI (v3)]) rfl rfl rfl ?_
  refine w_t (np := 17) (l2 := [some (eR a0), some (eI (v3)), none, none]) (s2 := [eI (890), eI (v3)]) rfl rfl rfl ?_
  refine b_cle (t1 := 21) (t2 := 20) rfl rfl rfl (ev_w_in (by omega) (by omega)) rfl (fun g8 => ?_) (fun _ => v_rv rfl rfl (K g μ 0 0 hI.re.p hI Fr.r (by decide) (by omega) (Or.inr gA0)))
  have b3 : 0 ≤ v3 ∧ v3 ≤ 890 := by omega
  refine w_t (np := 22) (l2 := [some (eR a0), some (eI (v3)), none, none]) (s2 := [eI (v3)]) rfl rfl rfl ?_
  refine w_t (np := 23) (l2 := [some (eR a0), some (eI (v3)), none, none]) (s2 := [eR a0, eI (v3)]) rfl (s_an rfl pa) rfl ?_
  refine w_gf (np := 26) (v := eR q0) rfl rfl (hI.kd gA0 (by decide) (n := 8) rfl) (by rw [e0]; rfl) ?_
  refine j_len (np := 27) rfl rfl hI b0 (by decide) (c := 100) (n := 890) rfl rfl rfl ?_
  rw [show ((890 : Nat) : Int) = 890 from rfl]
  have F00 : Fr l_31 0 0 g μ μ := Fr.r
  refine b_cle (t1 := 34) (t2 := 30) rfl rfl rfl (ev_w_in (by omega) (by omega)) rfl (fun g9 => ?_) (fun g9 => False.elim (by omega))
  have hfc := (show v3 = 2 * co + (fcnt (fun x => μ.1 q0 x - 1) co.toNat : Int) by rw [e0, Int.toNat_natCast] at hv3; exact hv3)
  refine w_t (np := 35) (l2 := [some (eR a0), some (eI (v3)), none, none]) (s2 := [eR a0]) rfl (s_an rfl pa) rfl ?_
  refine w_gf (np := 38) (v := eR p) rfl rfl (hI.kd gA0 (by decide) (n := 8) rfl) (by rw [hpt]; rfl) ?_
  refine w_t (np := 39) (l2 := [some (eR a0), some (eI (v3)), none, none]) (s2 := [eI (v3), eR p]) rfl rfl rfl ?_
  refine w_cw (np := 42) (as := [eI (v3)]) (l2 := [some (eR p), some (eI (v3)), none]) (rest := []) rfl rfl rfl (Nat.ble_eq.mp rfl) rfl rfl rfl (hI.kd gp (by decide) (n := 3) rfl) rfl ?_
  refine s_47 hI gp (by omega) ?_
  intro gB mB cB sB PB IB FB hB XB
  have gaB : gB a0 = 7 := (XB a0 (by rw [gA0]; decide) hap).trans gA0
  have FT : Fr l_31 (0 + cB) (0 + sB) g μ mB := F00.p hI.re.p FB rfl l_31p l_31q
  show ex_q (dt_fg L ρ) rc (d + 4, (31, 42, [some (eR a0), some (eI (v3)), none, none], []), f :: F, mB)
  have coB := (FB.k eco gA0 (by decide) rfl)
  have deB := (FB.k hde gA0 (by decide) rfl)
  have ptB := (FB.k hpt gA0 (by decide) rfl)
  have kB := FB.k e0 gA0 (by decide) rfl
  have hfB : v3 = 2 * co + (fcnt (fun x => mB.1 (mB.1 a0 0).toNat x - 1) co.toNat : Int) := by
    rw [hfc, kB, Int.toNat_natCast, fcnt_c co.toNat (r := μ.1 q0) (r2 := mB.1 q0) (fun j _ => FB.kr rfl b0 (by decide) rfl rfl)]
  refine s_31u (a1 := v3) IB gaB (by omega) coB deB hd4 hfB ?_
  intro mC co2 de2 IC FC e1 e2 h1 h2
  have ptC := FC.k ptB gaB (by decide) rfl
  refine K gB mC _ _ PB IC (FT.p PB FC rfl l_31p l_31q) (by omega) ?_ (Or.inr gaB)
  rw [ePHI, PHI_v ptC, gaB]
  rcases hB with ⟨x1, x2, x3⟩ | ⟨x1, x2, x3⟩
  · rw [x1, x3]; decide
  · rw [x1, x3]; decide
theorem s_31_bb {L : Nat} {ρ : Nat → Int} {rc : eQ} {d : Nat} {f : eFr} {F : List eFr} {μ : eM} {g : Nat → Nat} {a0 p : Nat} {de : Int} (hI : SI g μ) (gA0 : g a0 = 7) (hpt : μ.1 a0 4 = (p : Int)) (gp : g p = 15) (hde : μ.1 a0 6 = de) (hd4 : de ≤ 4) (K : ∀ (g2 : Nat → Nat) (μ2 : eM) (c s : Nat), GP g g2 → SI g2 μ2 → Fr l_31 c s g μ μ2 → c ≤ 6 → s + PHI g2 μ2 a0 ≤ PHI g μ a0 → (g2 a0 = 2 ∨ g2 a0 = 7) → ex_q (dt_fg L ρ) rc (d + 5, (f.1, f.2.1, f.2.2.1, f.2.2.2), F, μ2)) : ex_q (dt_fg L ρ) rc (d + 4, (31, 0, [some (eR a0), none, none, none], []), f :: F, μ) := by
  obtain ⟨co, eco, bco⟩ := hI.pk (k := 7) gA0 (by decide) (n := 8) rfl rfl (lo := 0) (hi := 890) rfl
  obtain ⟨q0, e0, b0, z0⟩ := hI.ref (k := 0) gA0 (by decide) (n := 8) rfl (by decide) rfl
  have b0 : g q0 = 8 := Nat.eq_of_beq_eq_true b0
  have pa := pos_g hI gA0 (by decide)
  have hap : a0 ≠ p := fun z => by rw [z, gp] at gA0; cases gA0
  have ePHI : PHI g μ a0 = 0 + 0 := by rw [PHI_v hpt, gA0, gp]; rfl
  have hpar : 0 < p := pos_g hI gp (by decide)
  refine w_t (np := 1) (l2 := [some (eR a0), none, none, none]) (s2 := [eI (2)]) rfl rfl rfl ?_
  refine w_t (np := 2) (l2 := [some (eR a0), none, none, none]) (s2 := [eR a0, eI (2)]) rfl (s_an rfl pa) rfl ?_
  refine w_gf (np := 5) (v := eI (co)) rfl rfl (hI.kd gA0 (by decide) (n := 8) rfl) (by rw [eco]; rfl) ?_
  obtain ⟨v1, ev1⟩ : ∃ zz : Int, zz = (2) * (co) := ⟨_, rfl⟩
  refine w_t (np := 6) (l2 := [some (eR a0), none, none, none]) (s2 := [eI (v1)]) rfl (b_imul (by rw [← ev1]; exact ev_w_in (by omega) (by omega))) rfl ?_
  refine w_t (np := 7) (l2 := [some (eR a0), none, none, none]) (s2 := [eR a0, eI (v1)]) rfl (s_an rfl pa) rfl ?_
  refine w_t (np := 8) (l2 := [some (eR a0), none, none, none]) (s2 := [eI (1), eR a0, eI (v1)]) rfl rfl rfl ?_
  refine w_cw (np := 11) (as := [eI (1)]) (l2 := [some (eR a0), some (eI (1)), none, none]) (rest := [eI (v1)]) rfl rfl rfl (Nat.ble_eq.mp rfl) rfl rfl rfl (hI.kd gA0 (by decide) (n := 8) rfl) rfl ?_
  refine s_25k_2 (a1 := 1) hI gA0 (by decide) eco ?_
  intro v2 b2 h2
  show ex_q (dt_fg L ρ) rc (d + 4, (31, 11, [some (eR a0), none, none, none], [eI v2, eI (v1)]), f :: F, μ)
  obtain ⟨v3, ev3⟩ : ∃ zz : Int, zz = (v1) + (v2) := ⟨_, rfl⟩
  refine w_t (np := 12) (l2 := [some (eR a0), none, none, none]) (s2 := [eI (v3)]) rfl (b_iadd (by rw [← ev3]; exact ev_w_in (by omega) (by omega))) rfl ?_
  refine w_t (np := 13) (l2 := [some (eR a0), some (eI (v3)), none, none]) (s2 := []) rfl rfl rfl ?_
  have hv3 : v3 = 2 * co + (fcnt (fun x => μ.1 (μ.1 a0 0).toNat x - 1) co.toNat : Int) := by omega
  clear h2
  refine w_t (np := 14) (l2 := [some (eR a0), some (eI (v3)), none, none]) (s2 := [eI (v3)]) rfl rfl rfl ?_
  refine w_t (np := 17) (l2 := [some (eR a0), some (eI (v3)), none, none]) (s2 := [eI (890), eI (v3)]) rfl rfl rfl ?_
  refine b_cle (t1 := 21) (t2 := 20) rfl rfl rfl (ev_w_in (by omega) (by omega)) rfl (fun g8 => ?_) (fun _ => v_rv rfl rfl (K g μ 0 0 hI.re.p hI Fr.r (by decide) (by omega) (Or.inr gA0)))
  have b3 : 0 ≤ v3 ∧ v3 ≤ 890 := by omega
  refine w_t (np := 22) (l2 := [some (eR a0), some (eI (v3)), none, none]) (s2 := [eI (v3)]) rfl rfl rfl ?_
  refine w_t (np := 23) (l2 := [some (eR a0), some (eI (v3)), none, none]) (s2 := [eR a0, eI (v3)]) rfl (s_an rfl pa) rfl ?_
  refine w_gf (np := 26) (v := eR q0) rfl rfl (hI.kd gA0 (by decide) (n := 8) rfl) (by rw [e0]; rfl) ?_
  refine j_len (np := 27) rfl rfl hI b0 (by decide) (c := 100) (n := 890) rfl rfl rfl ?_
  rw [show ((890 : Nat) : Int) = 890 from rfl]
  have F00 : Fr l_31 0 0 g μ μ := Fr.r
  refine b_cle (t1 := 34) (t2 := 30) rfl rfl rfl (ev_w_in (by omega) (by omega)) rfl (fun g9 => ?_) (fun g9 => False.elim (by omega))
  have hfc := (show v3 = 2 * co + (fcnt (fun x => μ.1 q0 x - 1) co.toNat : Int) by rw [e0, Int.toNat_natCast] at hv3; exact hv3)
  refine w_t (np := 35) (l2 := [some (eR a0), some (eI (v3)), none, none]) (s2 := [eR a0]) rfl (s_an rfl pa) rfl ?_
  refine w_gf (np := 38) (v := eR p) rfl rfl (hI.kd gA0 (by decide) (n := 8) rfl) (by rw [hpt]; rfl) ?_
  refine w_t (np := 39) (l2 := [some (eR a0), some (eI (v3)), none, none]) (s2 := [eI (v3), eR p]) rfl rfl rfl ?_
  refine w_cw (np := 42) (as := [eI (v3)]) (l2 := [some (eR p), some (eI (v3)), none]) (rest := []) rfl rfl rfl (Nat.ble_eq.mp rfl) rfl rfl rfl (hI.kd gp (by decide) (n := 3) rfl) rfl ?_
  refine s_47b hI gp (by omega) ?_
  intro mB IB FB
  have gaB := gA0
  have FT : Fr l_31 0 0 g μ mB := F00.p hI.re.p FB rfl l_31p l_31q
  show ex_q (dt_fg L ρ) rc (d + 4, (31, 42, [some (eR a0), some (eI (v3)), none, none], []), f :: F, mB)
  have coB := (FB.k eco gA0 (by decide) rfl)
  have deB := (FB.k hde gA0 (by decide) rfl)
  have ptB := (FB.k hpt gA0 (by decide) rfl)
  have kB := FB.k e0 gA0 (by decide) rfl
  have hfB : v3 = 2 * co + (fcnt (fun x => mB.1 (mB.1 a0 0).toNat x - 1) co.toNat : Int) := by
    rw [hfc, kB, Int.toNat_natCast, fcnt_c co.toNat (r := μ.1 q0) (r2 := mB.1 q0) (fun j _ => FB.kr rfl b0 (by decide) rfl rfl)]
  refine s_31u (a1 := v3) IB gaB (by omega) coB deB hd4 hfB ?_
  intro mC co2 de2 IC FC e1 e2 h1 h2
  have ptC := FC.k ptB gaB (by decide) rfl
  refine K g mC _ _ hI.re.p IC (FT.p hI.re.p FC rfl l_31p l_31q) (by omega) ?_ (Or.inr gaB)
  rw [ePHI, PHI_v ptC, gaB]
  rw [gp]; decide
