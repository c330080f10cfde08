/-! BLOCKS: each step against the coded evaluator's -/
theorem b_T_ok {m : Nat} {e : bE} {K : Nat → Bool} (hm : m = 0 ∨ m = 1) (he : be e) (h : b_T m false e K = true) : e.2 % 8 = m ∧ be (m, e.2) ∧ K e.2 = true := by
  rcases hm with rfl | rfl
  · obtain ⟨h1, h2⟩ := b_I_ok he h
    exact ⟨h1, be_0 he.1 h1, h2⟩
  · obtain ⟨h1, h2⟩ := b_J_ok he h
    exact ⟨h1, be_1 he.1 h1, h2⟩
theorem bs_no_ok (g : nC) : b_ok bs_no g := by
  intro d L ov S ss I M F K Q W G R h
  cases h
theorem bs_ld_ok {m k y np : Nat} {t : Nat → Bool} (hm : m = 0 ∨ m = 1) (ht : ∀ c, c % 8 = m → t c = true) : b_ok (bs_ld m k y np) (np_ld t (nW ^ k) y np) := by
  intro d L ov S ss I M F K Q W G R h
  have e := cd_pk0 W.2.1 k
  have hb := b_loc_be W.2.1 k
  obtain ⟨⟨mk, c⟩, hx⟩ : ∃ x, b_loc L ov k = x := ⟨_, rfl⟩
  unfold bs_ld at h
  rw [hx] at h hb e
  show f_if false (t (cd (pk_L L 0 ov) k)) (Q (d - I.length) y np (pk_L L 0 ov) (Nat.add (Nat.mul (pk_S S ss) nW) (cd (pk_L L 0 ov) k)) (pk_F F I) M) = true
  rw [e]
  rcases b_if_t h with ⟨g, h⟩ | ⟨-, h⟩
  · have g : mk = m := Nat.eq_of_beq_eq_true g
    subst g
    have h1 : c % 8 = mk := by
      rcases hm with r | r
      · rw [hb.2.2.1 r, r]
      · rw [hb.2.2.2.1 r, r]
    exact fb_in (ht _ h1) (G _ _ _ _ _ _ _ _ (W.push hb W.1) h)
  · obtain ⟨h1, h2, h3⟩ := b_T_ok hm hb h
    refine fb_in (ht _ h1) ?_
    have hv : c = (b_loc L ov k).2 := by rw [hx]
    have := G _ _ _ _ _ _ _ _ ((W.ov (bow_mk W.2.1 h2 hv)).push h2 W.1) h3
    rw [pk_mk W.2.1 h2 hv] at this
    exact this
theorem n_t4_in {c : Nat} (h1 : c % 8 = 2) (h2 : 10 ≤ c) : n_t4 c = true := by
  show @Bool.rec (fun _ => Bool) false (Nat.ble 10 c) (Nat.beq (c % 8) 2) = true
  rw [h1]
  exact bl_t h2
theorem bs_al_ok {k y np : Nat} : b_ok (bs_al k y np) (np_ld n_t4 (nW ^ k) y np) := by
  intro d L ov S ss I M F K Q W G R h
  have e := cd_pk0 W.2.1 k
  have hb := b_loc_be W.2.1 k
  obtain ⟨⟨mk, c⟩, hx⟩ : ∃ x, b_loc L ov k = x := ⟨_, rfl⟩
  unfold bs_al at h
  rw [hx] at h hb e
  show f_if false (n_t4 (cd (pk_L L 0 ov) k)) (Q (d - I.length) y np (pk_L L 0 ov) (Nat.add (Nat.mul (pk_S S ss) nW) (cd (pk_L L 0 ov) k)) (pk_F F I) M) = true
  rw [e]
  rcases b_if_t h with ⟨g, h⟩ | ⟨-, h⟩
  · have g : mk = 2 := Nat.eq_of_beq_eq_true g
    subst g
    obtain ⟨q1, q2⟩ := hb.2.2.2.2.1 rfl
    exact fb_in (n_t4_in q1 q2) (G _ _ _ _ _ _ _ _ (W.push hb W.1) h)
  · rcases b_if_t h with ⟨g, h⟩ | ⟨-, h⟩
    · have g : mk = 5 := Nat.eq_of_beq_eq_true g
      subst g
      obtain ⟨q1, q2, -⟩ := hb.2.2.2.2.2.2.2 rfl
      exact fb_in (n_t4_in q1 q2) (G _ _ _ _ _ _ _ _ (W.push hb W.1) h)
    · obtain ⟨h1, h2, m, h3, h4⟩ := b_N_ok hb h
      refine fb_in (n_t4_in h1 h2) ?_
      have hv : c = (b_loc L ov k).2 := by rw [hx]
      have := G _ _ _ _ _ _ _ _ ((W.ov (bow_mk W.2.1 h3 hv)).push h3 W.1) h4
      rw [pk_mk W.2.1 h3 hv] at this
      exact this
theorem bs_is_ok {k y np : Nat} : b_ok (bs_is k y np) (np_st n_t0 k (nW ^ k) y np) := by
  intro d L ov S ss I M F K Q W G R h
  obtain ⟨e, S', ss', he, hs, e1, e2, h⟩ := pk_pop W.1 h
  obtain ⟨h1, h⟩ := b_I_ok he h
  obtain ⟨h2, h⟩ := b_pr_ok W.2.1 h
  have hb := be_0 he.1 h1
  unfold np_st
  rw [e1, e2]
  refine fb_in (by rw [(n_8f h1).1]; rfl) (fb_in h2 ?_)
  have := G _ _ _ _ _ _ _ _ ((W.ss hs).ov (bow_set W.2.1 hb (fun q => by cases q))) h
  rw [pk_set W.2.1 hb] at this
  exact this
theorem bs_as_ok {k y np : Nat} : b_ok (bs_as k y np) (np_st n_t4 k (nW ^ k) y np) := by
  intro d L ov S ss I M F K Q W G R h
  obtain ⟨e, S', ss', he, hs, e1, e2, h⟩ := pk_pop W.1 h
  obtain ⟨h1, h3, m, hb, h⟩ := b_N_ok he h
  obtain ⟨h2, h⟩ := b_pr_ok W.2.1 h
  unfold np_st
  rw [e1, e2]
  refine fb_in (n_t4_in h1 h3) (fb_in h2 ?_)
  have := G _ _ _ _ _ _ _ _ ((W.ss hs).ov (bow_set W.2.1 hb (fun q => by cases q))) h
  rw [pk_set W.2.1 hb] at this
  exact this
theorem bs_ls_ok {k y np : Nat} : b_ok (bs_ls k y np) (np_st2 k (nW ^ k) (nW ^ (k + 1)) y np) := by
  intro d L ov S ss I M F K Q W G R h
  obtain ⟨e, S', ss', he, hs, e1, e2, h⟩ := pk_pop W.1 h
  obtain ⟨h1, h⟩ := b_J_ok he h
  obtain ⟨h2, h⟩ := b_pr_ok W.2.1 h
  have hb := be_1 he.1 h1
  have w1 := bow_set W.2.1 hb (k := k) (w := 1) (fun q => by cases q)
  unfold np_st2
  rw [e1, e2]
  refine fb_in (by rw [(n_8f h1).2.1]; rfl) (fb_in h2 ?_)
  have := G _ _ _ _ _ _ _ _ ((W.ss hs).ov (bow_set w1 be_4 (k := k + 1) (w := 1) (fun q => by cases q))) h
  rw [pk_set w1 be_4, pk_set W.2.1 hb] at this
  exact this
theorem bs_inc_ok {k n y np : Nat} (hn : n % 8 = 0) : b_ok (bs_inc k n y np) (np_inc k (nW ^ k) n y np) := by
  intro d L ov S ss I M F K Q W G R h
  obtain ⟨h1, h⟩ := b_I_ok (b_loc_be W.2.1 k) h
  obtain ⟨h2, h⟩ := b_pr_ok W.2.1 h
  have e := cd_pk0 W.2.1 k
  have w35 := nW_35
  have hb : be (0, Nat.mod (Nat.add (b_loc L ov k).2 n) 34359738368) := be_0 (by show ((b_loc L ov k).2 + n) % 34359738368 < nW; omega) (by show ((b_loc L ov k).2 + n) % 34359738368 % 8 = 0; omega)
  show f_if false (Nat.beq (Nat.mod (cd (pk_L L 0 ov) k) 8) 0) (f_if false (n_pr k (pk_L L 0 ov)) (Q (d - I.length) y np (n_set (pk_L L 0 ov) (nW ^ k) (Nat.mod (Nat.add (cd (pk_L L 0 ov) k) n) 34359738368)) (pk_S S ss) (pk_F F I) M)) = true
  rw [e]
  refine fb_in (bq_t h1) (fb_in h2 ?_)
  have := G _ _ _ _ _ _ _ _ (W.ov (bow_set W.2.1 hb (fun q => by cases q))) h
  rw [pk_set W.2.1 hb] at this
  exact this
theorem bs_c_ok {m c y np : Nat} (hb : be (m, c)) : b_ok (bs_c m c y np) (np_c c y np) := by
  intro d L ov S ss I M F K Q W G R h
  exact G _ _ _ _ _ _ _ _ (W.push hb W.1) h
theorem bs_2_ok {m1 m2 m3 : Nat} {g : Nat → Nat → Nat} {y np : Nat} (h1 : m1 = 0 ∨ m1 = 1) (h2 : m2 = 0 ∨ m2 = 1) (hg : ∀ p q, p < nW → q < nW → p % 8 = m2 → q % 8 = m1 → be (m3, g p q)) : b_ok (bs_2 m1 m2 m3 g y np) (np_2 m1 m2 g y np) := by
  intro d L ov S ss I M F K Q W G R h
  obtain ⟨a, S1, s1, ha, hs1, e1, e2, h⟩ := pk_pop W.1 h
  obtain ⟨k1, -, h⟩ := b_T_ok h1 ha h
  obtain ⟨b, S2, s2, hb, hs2, e3, e4, h⟩ := pk_pop hs1 h
  obtain ⟨k2, -, h⟩ := b_T_ok h2 hb h
  unfold np_2
  rw [e1, e2, e3, e4]
  exact fb_in (bq_t k1) (fb_in (bq_t k2) (G _ _ _ _ _ _ _ _ (W.push (hg _ _ hb.1 ha.1 k2 k1) hs2) h))
theorem bs_1_ok {m1 m3 : Nat} {g : Nat → Nat} {y np : Nat} (h1 : m1 = 0 ∨ m1 = 1) (hg : ∀ q, q < nW → q % 8 = m1 → be (m3, g q)) : b_ok (bs_1 m1 m3 g y np) (np_1 m1 g y np) := by
  intro d L ov S ss I M F K Q W G R h
  obtain ⟨a, S1, s1, ha, hs1, e1, e2, h⟩ := pk_pop W.1 h
  obtain ⟨k1, -, h⟩ := b_T_ok h1 ha h
  unfold np_1
  rw [e1, e2]
  exact fb_in (bq_t k1) (G _ _ _ _ _ _ _ _ (W.push (hg _ ha.1 k1) hs1) h)
theorem bs_div_ok {g f : Nat → Nat → Nat} {y np : Nat} (hg : ∀ p q, p % 8 = 0 → q % 8 = 0 → 1 ≤ q → q < 17179869184 → p < 17179869184 → f p q = g p q ∧ be (0, g p q)) : b_ok (bs_div g y np) (fun d L S F M Q z => f_if z (Nat.ble 1 (Nat.mod S nW)) (np_2 0 0 f y np d L S F M Q z)) := by
  intro d L ov S ss I M F K Q W G R h
  obtain ⟨a, S1, s1, ha, hs1, e1, e2, h⟩ := pk_pop W.1 h
  obtain ⟨k1, h⟩ := b_I_ok ha h
  obtain ⟨b, S2, s2, hb, hs2, e3, e4, h⟩ := pk_pop hs1 h
  obtain ⟨k2, h⟩ := b_I_ok hb h
  obtain ⟨k3, h⟩ := f_if_ok h
  obtain ⟨k4, h⟩ := f_if_ok h
  obtain ⟨k5, h⟩ := f_if_ok h
  obtain ⟨q1, q2⟩ := hg b.2 a.2 k2 k1 (Nat.ble_eq.mp k3) (Nat.ble_eq.mp k4) (Nat.ble_eq.mp k5)
  unfold np_2
  dsimp only
  rw [e1, e2, e3, e4, q1]
  exact fb_in k3 (fb_in (bq_t k1) (fb_in (bq_t k2) (G _ _ _ _ _ _ _ _ (W.push q2 hs2) h)))
theorem pk_pp {S : Nat} : ∀ {c X : Nat}, Nat.mod S nW = c → Nat.div S nW = X → Nat.add (Nat.mul X nW) c = S := by
  intro c X h1 h2
  rw [← h1, ← h2]
  show S / nW * nW + S % nW = S
  rw [Nat.mul_comm]
  exact Nat.div_add_mod S nW
theorem bs_dup_ok {y np : Nat} : b_ok (bs_dup y np) (np_dupc y np) := by
  intro d L ov S ss I M F K Q W G R h
  obtain ⟨a, S1, s1, ha, hs1, e1, e2, h⟩ := pk_pop W.1 h
  obtain ⟨k1, k2, h⟩ := b_1_ok ha h
  have := G _ _ _ _ _ _ _ _ ((W.push ha hs1).push ha (W.push ha hs1).1) h
  have e : pk_S S1 (a :: a :: s1) = Nat.add (Nat.mul (pk_S S ss) nW) a.2 := by
    show Nat.add (Nat.mul (Nat.add (Nat.mul (pk_S S1 s1) nW) a.2) nW) a.2 = _
    rw [pk_pp e1 e2]
  rw [e] at this
  unfold np_dupc
  rw [e1]
  exact fb_in k1 this
theorem bs_pop_ok {y np : Nat} : b_ok (bs_pop y np) (np_popc y np) := by
  intro d L ov S ss I M F K Q W G R h
  obtain ⟨a, S1, s1, ha, hs1, e1, e2, h⟩ := pk_pop W.1 h
  obtain ⟨k1, k2, h⟩ := b_1_ok ha h
  unfold np_popc
  rw [e1, e2]
  exact fb_in k1 (G _ _ _ _ _ _ _ _ (W.ss hs1) h)
theorem bs_dup2_ok {y np : Nat} : b_ok (bs_dup2 y np) (np_dup2c y np) := by
  intro d L ov S ss I M F K Q W G R h
  obtain ⟨a, S1, s1, ha, hs1, e1, e2, h⟩ := pk_pop W.1 h
  obtain ⟨k1, -, h⟩ := b_1_ok ha h
  obtain ⟨b, S2, s2, hb, hs2, e3, e4, h⟩ := pk_pop hs1 h
  obtain ⟨k2, -, h⟩ := b_1_ok hb h
  have w1 := W.push hb hs2
  have w2 := w1.push ha w1.1
  have w3 := w2.push hb w2.1
  have w4 := w3.push ha w3.1
  have := G _ _ _ _ _ _ _ _ w4 h
  have e : pk_S S2 (a :: b :: a :: b :: s2) = Nat.add (Nat.mul (Nat.add (Nat.mul (pk_S S ss) nW) b.2) nW) a.2 := by
    show Nat.add (Nat.mul (Nat.add (Nat.mul (Nat.add (Nat.mul (Nat.add (Nat.mul (pk_S S2 s2) nW) b.2) nW) a.2) nW) b.2) nW) a.2 = _
    rw [pk_pp e3 e4, pk_pp e1 e2]
  rw [e] at this
  unfold np_dup2c
  rw [e1, e2, e3]
  exact fb_in k1 (fb_in k2 this)
theorem bs_go_ok {t y : Nat} : b_ok (bs_go t y) (nj_go t y) := by
  intro d L ov S ss I M F K Q W G R h
  exact G _ _ _ _ _ _ _ _ W h
/-- the three ways of a comparison out of one test -/
theorem b_w_ok {c : Jvm.ClassFile.Cond} {p q pc : Nat} {off : Int} {X : Nat → Bool} (hp : p < 34359738368) (hq : q < 34359738368) (h : b_w c p q (X (pc + 3)) (X (((pc : Int) + off).toNat)) = true) : (p = q → X (sv_tg pc off (sv_fl c).2.1) = true) ∧ (b_sh p < b_sh q → X (sv_tg pc off (sv_fl c).1) = true) ∧ (b_sh q < b_sh p → X (sv_tg pc off (sv_fl c).2.2) = true) := by
  have hs : ∀ a, b_sh a = (a + 17179869184) % 34359738368 := fun _ => rfl
  have hne : p = q → b_sh p = b_sh q := fun e => by rw [e]
  have heq : b_sh p = b_sh q → p = q := fun e => by rw [hs, hs] at e; omega
  cases c with
  | eq =>
    simp only [b_w] at h
    rcases b_if_t h with ⟨g, h⟩ | ⟨g, h⟩
    · have g := Nat.eq_of_beq_eq_true g
      exact ⟨fun _ => h, fun k => absurd (hne g) (by omega), fun k => absurd (hne g) (by omega)⟩
    · exact ⟨fun k => absurd k (bq_ne g), fun _ => h, fun _ => h⟩
  | ne =>
    simp only [b_w] at h
    rcases b_if_t h with ⟨g, h⟩ | ⟨g, h⟩
    · have g := Nat.eq_of_beq_eq_true g
      exact ⟨fun _ => h, fun k => absurd (hne g) (by omega), fun k => absurd (hne g) (by omega)⟩
    · exact ⟨fun k => absurd k (bq_ne g), fun _ => h, fun _ => h⟩
  | lt =>
    simp only [b_w] at h
    rcases b_if_t h with ⟨g, h⟩ | ⟨g, h⟩
    · have g := Nat.ble_eq.mp g
      exact ⟨fun _ => h, fun k => absurd k (by omega), fun _ => h⟩
    · have g : ¬ b_sh q ≤ b_sh p := ble_no g
      exact ⟨fun k => absurd (hne k) (by omega), fun _ => h, fun k => absurd k (by omega)⟩
  | ge =>
    simp only [b_w] at h
    rcases b_if_t h with ⟨g, h⟩ | ⟨g, h⟩
    · have g := Nat.ble_eq.mp g
      exact ⟨fun _ => h, fun k => absurd k (by omega), fun _ => h⟩
    · have g : ¬ b_sh q ≤ b_sh p := ble_no g
      exact ⟨fun k => absurd (hne k) (by omega), fun _ => h, fun k => absurd k (by omega)⟩
  | gt =>
    simp only [b_w] at h
    rcases b_if_t h with ⟨g, h⟩ | ⟨g, h⟩
    · have g := Nat.ble_eq.mp g
      exact ⟨fun _ => h, fun _ => h, fun k => absurd k (by omega)⟩
    · have g : ¬ b_sh p ≤ b_sh q := ble_no g
      exact ⟨fun k => absurd (hne k) (by omega), fun k => absurd k (by omega), fun _ => h⟩
  | le =>
    simp only [b_w] at h
    rcases b_if_t h with ⟨g, h⟩ | ⟨g, h⟩
    · have g := Nat.ble_eq.mp g
      exact ⟨fun _ => h, fun _ => h, fun k => absurd k (by omega)⟩
    · have g : ¬ b_sh p ≤ b_sh q := ble_no g
      exact ⟨fun k => absurd (hne k) (by omega), fun k => absurd k (by omega), fun _ => h⟩
theorem nS_rg {ρ : Nat → Int} {S : Nat} {st : List eV} (h : nS ρ S st) (h8 : S % nW % 8 = 0) : S % nW < 34359738368 ∧ ∃ st', nS ρ (S / nW) st' := by
  obtain ⟨e, r, rfl, h4, h5⟩ := h.pop (by rw [h8]; decide)
  have := (cr_0 h8 h4).1
  exact ⟨by omega, r, h5⟩
theorem bs_if_ok {c : Jvm.ClassFile.Cond} {off : Int} {pc y : Nat} : b_ok (bs_if c (pc + 3) (((pc : Int) + off).toNat) y) (nj_if (sv_tg pc off (sv_fl c).1) (sv_tg pc off (sv_fl c).2.1) (sv_tg pc off (sv_fl c).2.2) y) := by
  intro d L ov S ss I M F K Q W G R h
  obtain ⟨a, S1, s1, ha, hs1, e1, e2, h⟩ := pk_pop W.1 h
  obtain ⟨k1, h⟩ := b_I_ok ha h
  obtain ⟨ρ, st, hS⟩ := R
  have e1' : pk_S S ss % nW = a.2 := e1
  have hr := (nS_rg hS (by rw [e1']; exact k1)).1
  rw [e1'] at hr
  obtain ⟨x1, x2, x3⟩ := b_w_ok (X := fun t => K y t L ov S1 s1 I M) hr (by decide) h
  have hG : ∀ t, K y t L ov S1 s1 I M = true → Q (d - I.length) y t (pk_L L 0 ov) (pk_S S1 s1) (pk_F F I) M = true := fun t ht => G _ _ _ _ _ _ _ _ (W.ss hs1) ht
  have hs : ∀ a, b_sh a = (a + 17179869184) % 34359738368 := fun _ => rfl
  unfold nj_if
  rw [e1, e2]
  refine fb_in (bq_t k1) ?_
  cases hl : Nat.ble (Nat.succ a.2) 17179869184 with
  | false =>
    have hl : ¬ a.2 + 1 ≤ 17179869184 := ble_no hl
    exact hG _ (x2 (by rw [hs, hs]; omega))
  | true =>
    have hl : a.2 + 1 ≤ 17179869184 := Nat.ble_eq.mp hl
    cases hz : Nat.beq a.2 0 with
    | true => exact hG _ (x1 (Nat.eq_of_beq_eq_true hz))
    | false =>
      have := bq_ne hz
      exact hG _ (x3 (by rw [hs, hs]; omega))
theorem bs_ic_ok {c : Jvm.ClassFile.Cond} {off : Int} {pc y : Nat} : b_ok (bs_ic c (pc + 3) (((pc : Int) + off).toNat) y) (nj_ic (sv_tg pc off (sv_fl c).1) (sv_tg pc off (sv_fl c).2.1) (sv_tg pc off (sv_fl c).2.2) y) := by
  intro d L ov S ss I M F K Q W G R h
  obtain ⟨a, S1, s1, ha, hs1, e1, e2, h⟩ := pk_pop W.1 h
  obtain ⟨k1, h⟩ := b_I_ok ha h
  obtain ⟨b, S2, s2, hb, hs2, e3, e4, h⟩ := pk_pop hs1 h
  obtain ⟨k2, h⟩ := b_I_ok hb h
  obtain ⟨ρ, st, hS⟩ := R
  have e1' : pk_S S ss % nW = a.2 := e1
  have e2' : pk_S S ss / nW = pk_S S1 s1 := e2
  have e3' : pk_S S1 s1 % nW = b.2 := e3
  obtain ⟨hr, st', hS'⟩ := nS_rg hS (by rw [e1']; exact k1)
  rw [e1'] at hr
  rw [e2'] at hS'
  have hr2 := (nS_rg hS' (by rw [e3']; exact k2)).1
  rw [e3'] at hr2
  obtain ⟨x1, x2, x3⟩ := b_w_ok (X := fun t => K y t L ov S2 s2 I M) hr2 hr h
  have hG : ∀ t, K y t L ov S2 s2 I M = true → Q (d - I.length) y t (pk_L L 0 ov) (pk_S S2 s2) (pk_F F I) M = true := fun t ht => G _ _ _ _ _ _ _ _ (W.ss hs2) ht
  have hs : ∀ a, b_sh a = (a + 17179869184) % 34359738368 := fun _ => rfl
  unfold nj_ic
  rw [e1, e2, e3, e4]
  refine fb_in (bq_t k1) (fb_in (bq_t k2) ?_)
  cases hz : Nat.beq b.2 a.2 with
  | true => exact hG _ (x1 (Nat.eq_of_beq_eq_true hz))
  | false =>
    have hz := bq_ne hz
    cases hl : Nat.ble (Nat.mod (Nat.add b.2 17179869184) 34359738368) (Nat.mod (Nat.add a.2 17179869184) 34359738368) with
    | false =>
      have hl : ¬ (b.2 + 17179869184) % 34359738368 ≤ (a.2 + 17179869184) % 34359738368 := ble_no hl
      exact hG _ (x3 (by rw [hs, hs]; omega))
    | true =>
      have hl : (b.2 + 17179869184) % 34359738368 ≤ (a.2 + 17179869184) % 34359738368 := Nat.ble_eq.mp hl
      exact hG _ (x2 (by rw [hs, hs]; omega))
theorem bs_nu_ok {t1 t2 y : Nat} : b_ok (bs_nu t1 t2 y) (nj_nu t1 t2 y) := by
  intro d L ov S ss I M F K Q W G R h
  obtain ⟨a, S1, s1, ha, hs1, e1, e2, h⟩ := pk_pop W.1 h
  have hG : ∀ t, K y t L ov S1 s1 I M = true → Q (d - I.length) y t (pk_L L 0 ov) (pk_S S1 s1) (pk_F F I) M = true := fun t ht => G _ _ _ _ _ _ _ _ (W.ss hs1) ht
  unfold nj_nu
  rw [e1, e2]
  obtain ⟨m, c⟩ := a
  rcases b_if_t h with ⟨g, h⟩ | ⟨-, h⟩
  · obtain ⟨q1, q2⟩ := ha.2.2.2.2.1 (Nat.eq_of_beq_eq_true g)
    refine fb_in (bq_t q1) ?_
    cases hz : Nat.beq c 2 with
    | true =>
      have := Nat.eq_of_beq_eq_true hz
      omega
    | false => exact hG _ h
  · obtain ⟨k1, h⟩ := b_A_ok ha h
    refine fb_in (bq_t k1) ?_
    rcases b_if_t h with ⟨g, h⟩ | ⟨g, h⟩
    · rw [g]; exact hG _ h
    · rw [g]; exact hG _ h
