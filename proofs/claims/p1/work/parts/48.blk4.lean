/-! BLOCKS: memory, calls, answers against the coded evaluator's -/
theorem b_vI_ok {t c : Nat} {K : bE → Bool} {X : Nat → Bool} (ht : t ≤ 1) (hc : c < nW) (h : b_v t false c K = true) (hX : ∀ e, be e → K e = true → X e.2 = true) : nvI false c X = true := by
  rcases b_if_t h with ⟨-, h⟩ | ⟨g, -⟩
  · obtain ⟨h1, h⟩ := f_if_ok h
    have h1 : c % 8 = 0 := Nat.eq_of_beq_eq_true h1
    exact fb_in (by rw [(n_8f h1).1]; rfl) (hX _ (be_0 hc h1) h)
  · rw [bl_t ht] at g
    cases g
theorem b_vJ_ok {c : Nat} {K : bE → Bool} {X : Nat → Bool} (hc : c < nW) (h : b_v 2 false c K = true) (hX : ∀ e, be e → K e = true → X e.2 = true) : nvJ false c X = true := by
  have h : f_if false (Nat.beq (Nat.mod (@Bool.rec (fun _ => Nat) c 1 (Nat.beq c 0)) 8) 1) (K (1, @Bool.rec (fun _ => Nat) c 1 (Nat.beq c 0))) = true := h
  obtain ⟨h1, h⟩ := f_if_ok h
  unfold nvJ
  cases hz : Nat.beq c 0 with
  | true =>
    rw [hz] at h
    exact hX (1, 1) (be_1 (by decide) rfl) h
  | false =>
    rw [hz] at h h1
    have h1 : c % 8 = 1 := Nat.eq_of_beq_eq_true h1
    exact fb_in (by rw [(n_8f h1).2.1]; rfl) (hX (1, c) (be_1 hc h1) h)
theorem b_vR_ok {c : Nat} {K : bE → Bool} {X : Nat → Bool} (hc : c < nW) (h : b_v 3 false c K = true) (hX : ∀ e, be e → K e = true → X e.2 = true) : nvR false c X = true := by
  have h : f_if false (Nat.beq (Nat.mod (@Bool.rec (fun _ => Nat) c 2 (Nat.beq c 0)) 8) 2) (K (3, @Bool.rec (fun _ => Nat) c 2 (Nat.beq c 0))) = true := h
  obtain ⟨h1, h⟩ := f_if_ok h
  unfold nvR
  cases hz : Nat.beq c 0 with
  | true =>
    rw [hz] at h
    exact hX (3, 2) (be_3 (by decide) rfl) h
  | false =>
    rw [hz] at h h1
    have h1 : c % 8 = 2 := Nat.eq_of_beq_eq_true h1
    exact fb_in (bq_t h1) (hX (3, c) (be_3 hc h1) h)
def bv_ok (t : Nat) (pv : Bool → Nat → (Nat → Bool) → Bool) : Prop := ∀ (c : Nat) (K : bE → Bool) (X : Nat → Bool), c < nW → b_v t false c K = true → (∀ e, be e → K e = true → X e.2 = true) → pv false c X = true
theorem bv_I0 : bv_ok 0 nvI := fun _ _ _ hc h hX => b_vI_ok (by decide) hc h hX
theorem bv_I1 : bv_ok 1 nvI := fun _ _ _ hc h hX => b_vI_ok (by decide) hc h hX
theorem bv_J : bv_ok 2 nvJ := fun _ _ _ hc h hX => b_vJ_ok hc h hX
theorem bv_R : bv_ok 3 nvR := fun _ _ _ hc h hX => b_vR_ok hc h hX
theorem bs_gf_ok {t a b b1 b2 y np : Nat} {pv : Bool → Nat → (Nat → Bool) → Bool} (hv : bv_ok t pv) : b_ok (bs_gf t a b b1 b2 y np) (nm_gf pv a b b1 b2 y np) := by
  intro d L ov S ss I M F K Q W G R h
  obtain ⟨e, S1, s1, he, hs1, e1, e2, h⟩ := pk_pop W.1 h
  obtain ⟨k1, h⟩ := b_A_ok he h
  obtain ⟨k2, h⟩ := f_if_ok h
  obtain ⟨k3, h⟩ := f_if_ok h
  obtain ⟨k4, h⟩ := f_if_ok h
  obtain ⟨k5, h⟩ := f_if_ok h
  unfold nm_gf
  rw [e1, e2]
  exact fb_in (bq_t k1) (fb_in k2 (fb_in k3 (fb_in k4 (fb_in k5 (hv _ _ _ (n_at_lt _ _) h fun v hv hk => G _ _ _ _ _ _ _ _ (W.push hv hs1) hk)))))
theorem n_wK_mono {M : nM} {j b1 P v : Nat} {K1 K2 : nM → Bool} (h : n_wK false M j b1 P v K1 = true) (hk : ∀ M', K1 M' = true → K2 M' = true) : n_wK false M j b1 P v K2 = true := by
  obtain ⟨T0, nn⟩ := M
  have h : f_if false (Nat.ble 0 (n_set ((n_get T0 j).2.2.get b1) P v)) (f_set b1 (n_set ((n_get T0 j).2.2.get b1) P v) (ndp (n_get T0 j).2.1) 0 (n_get T0 j).2.2 fun t => n_p7 j ((n_get T0 j).1, (n_get T0 j).2.1, t) T0 fun T => K1 (T, nn)) = true := h
  obtain ⟨h1, h2⟩ := f_if_ok h
  show f_if false (Nat.ble 0 (n_set ((n_get T0 j).2.2.get b1) P v)) (f_set b1 (n_set ((n_get T0 j).2.2.get b1) P v) (ndp (n_get T0 j).2.1) 0 (n_get T0 j).2.2 fun t => n_p7 j ((n_get T0 j).1, (n_get T0 j).2.1, t) T0 fun T => K2 (T, nn)) = true
  refine fb_in h1 ?_
  rw [f_set_eq, n_p7_eq] at h2 ⊢
  exact hk _ h2
def bq_ok (t : Nat) (qv : Bool → Nat → Bool → Bool) : Prop := ∀ (e : bE) (K : Nat → Bool), be e → b_q t false e K = true → K e.2 = true ∧ ∀ X : Bool, X = true → qv false e.2 X = true
theorem bq_I : bq_ok 0 nwI := by
  intro e K he h
  obtain ⟨h1, h⟩ := b_I_ok he h
  exact ⟨h, fun X hX => fb_in (by rw [(n_8f h1).1]; rfl) hX⟩
theorem n_z_in {c : Nat} {X : Bool} (h : n_z c = true) (hX : X = true) : nwZ false c X = true := by
  have h : @Bool.rec (fun _ => Bool) (Nat.beq c 8) true (Nat.beq c 0) = true := h
  unfold nwZ
  cases hz : Nat.beq c 0 with
  | true => exact hX
  | false =>
    rw [hz] at h
    exact fb_in h hX
theorem bq_Z : bq_ok 1 nwZ := by
  intro e K he h
  have h : b_I false e (fun c => f_if false (n_z c) (K c)) = true := h
  obtain ⟨h1, h⟩ := b_I_ok he h
  obtain ⟨h2, h⟩ := f_if_ok h
  exact ⟨h, fun X hX => n_z_in h2 hX⟩
theorem bq_J : bq_ok 2 nwJ := by
  intro e K he h
  obtain ⟨h1, h⟩ := b_J_ok he h
  exact ⟨h, fun X hX => fb_in (by rw [(n_8f h1).2.1]; rfl) hX⟩
theorem bq_R : bq_ok 3 nwR := by
  intro e K he h
  obtain ⟨h1, h⟩ := b_A_ok he h
  exact ⟨h, fun X hX => fb_in (bq_t h1) hX⟩
theorem bs_pf_ok {t a b b1 P y np : Nat} {qv : Bool → Nat → Bool → Bool} (hq : bq_ok t qv) : b_ok (bs_pf t a b b1 P y np) (nm_pf qv a b b1 P y np) := by
  intro d L ov S ss I M F K Q W G R h
  obtain ⟨v, S1, s1, hv, hs1, e1, e2, h⟩ := pk_pop W.1 h
  obtain ⟨h, k0⟩ := hq _ _ hv h
  obtain ⟨e, S2, s2, he, hs2, e3, e4, h⟩ := pk_pop hs1 h
  obtain ⟨k1, h⟩ := b_A_ok he h
  obtain ⟨k2, h⟩ := f_if_ok h
  obtain ⟨k3, h⟩ := f_if_ok h
  obtain ⟨k4, h⟩ := f_if_ok h
  obtain ⟨k5, h⟩ := f_if_ok h
  unfold nm_pf
  rw [e1, e2, e3, e4]
  exact fb_in (bq_t k1) (fb_in k2 (fb_in k3 (fb_in k4 (fb_in k5 (k0 _ (n_wK_mono h fun M' hk => G _ _ _ _ _ _ _ _ (W.ss hs2) hk))))))
theorem n_arr_s {ng : nG} {M : nM} {r : Nat} {K : nC0 → Bool} (h1 : 1 ≤ r) (h2 : r < 64) (hK : K (ng r) = true) : n_arr false ng M r K = true := by
  unfold n_arr
  rw [bl_t (show Nat.succ r ≤ 64 from h2)]
  exact fb_in (bl_t h1) hK
theorem n_arr_h {ng : nG} {M : nM} {r : Nat} {K : nC0 → Bool} (h : n_in false M r (K (n_get M.1 (Nat.sub r 64))) = true) : n_arr false ng M r K = true := by
  obtain ⟨h1, -⟩ := f_if_ok h
  have h1 := Nat.ble_eq.mp h1
  have h2 : Nat.ble (Nat.succ r) 64 = false := by
    cases hq : Nat.ble (Nat.succ r) 64 with
    | false => rfl
    | true =>
      have : r + 1 ≤ 64 := Nat.ble_eq.mp hq
      omega
  unfold n_arr
  rw [h2]
  exact h
theorem bs_ga_ok {t kk y np : Nat} {ng : nG} {pv : Bool → Nat → (Nat → Bool) → Bool} (hv : bv_ok t pv) : b_ok (bs_ga t ng kk y np) (nm_al pv ng kk y np) := by
  intro d L ov S ss I M F K Q W G R h
  obtain ⟨a, S1, s1, ha, hs1, e1, e2, h⟩ := pk_pop W.1 h
  obtain ⟨k1, h⟩ := b_I_ok ha h
  obtain ⟨e, S2, s2, he, hs2, e3, e4, h⟩ := pk_pop hs1 h
  unfold nm_al
  rw [e1, e2, e3, e4]
  obtain ⟨m, c⟩ := e
  rcases b_if_t h with ⟨g, h⟩ | ⟨-, h⟩
  · obtain ⟨q1, q2, q3⟩ := he.2.2.2.2.2.2.2 (Nat.eq_of_beq_eq_true g)
    obtain ⟨k4, h⟩ := f_if_ok h
    obtain ⟨k5, h⟩ := f_if_ok h
    obtain ⟨k6, h⟩ := f_if_ok h
    exact fb_in (bq_t q1) (n_arr_s (by show 1 ≤ c / 8; omega) q3 (fb_in k4 (fb_in (bq_t k1) (fb_in k5 (fb_in k6 (hv _ _ _ (n_rg_lt _ _) h fun v hv hk => G _ _ _ _ _ _ _ _ (W.push hv hs2) hk))))))
  · obtain ⟨q1, h⟩ := b_A_ok he h
    obtain ⟨k2, h⟩ := f_if_ok h
    obtain ⟨k3, h⟩ := f_if_ok h
    obtain ⟨k4, h⟩ := f_if_ok h
    obtain ⟨k5, h⟩ := f_if_ok h
    obtain ⟨k6, h⟩ := f_if_ok h
    exact fb_in (bq_t q1) (n_arr_h (fb_in k2 (fb_in k3 (fb_in k4 (fb_in (bq_t k1) (fb_in k5 (fb_in k6 (hv _ _ _ (n_rg_lt _ _) h fun v hv hk => G _ _ _ _ _ _ _ _ (W.push hv hs2) hk))))))))
theorem bs_bl_ok {y np : Nat} : b_ok (bs_bl y np) (nm_bl y np) := by
  intro d L ov S ss I M F K Q W G R h
  obtain ⟨a, S1, s1, ha, hs1, e1, e2, h⟩ := pk_pop W.1 h
  obtain ⟨k1, h⟩ := b_I_ok ha h
  obtain ⟨e, S2, s2, he, hs2, e3, e4, h⟩ := pk_pop hs1 h
  unfold nm_bl
  rw [e1, e2, e3, e4]
  obtain ⟨q1, h⟩ := b_A_ok he h
  obtain ⟨k2, h⟩ := f_if_ok h
  obtain ⟨k3, h⟩ := f_if_ok h
  obtain ⟨k4, h⟩ := f_if_ok h
  obtain ⟨k7, h⟩ := f_if_ok h
  obtain ⟨k5, h⟩ := f_if_ok h
  obtain ⟨k6, h⟩ := f_if_ok h
  exact fb_in (bq_t q1) (fb_in k2 (fb_in k3 (fb_in k4 (fb_in k7 (fb_in (bq_t k1) (fb_in k5 (fb_in k6 (bv_I0 _ _ _ (n_rg_lt _ _) h fun v hv hk => G _ _ _ _ _ _ _ _ (W.push hv hs2) hk))))))))
theorem bs_sa_ok {t kk y np : Nat} {qv : Bool → Nat → Bool → Bool} (hq : bq_ok t qv) : b_ok (bs_sa t kk y np) (nm_as qv kk y np) := by
  intro d L ov S ss I M F K Q W G R h
  obtain ⟨v, S1, s1, hv, hs1, e1, e2, h⟩ := pk_pop W.1 h
  obtain ⟨h, k0⟩ := hq _ _ hv h
  obtain ⟨a, S2, s2, ha, hs2, e3, e4, h⟩ := pk_pop hs1 h
  obtain ⟨k1, h⟩ := b_I_ok ha h
  obtain ⟨e, S3, s3, he, hs3, e5, e6, h⟩ := pk_pop hs2 h
  obtain ⟨q1, h⟩ := b_A_ok he h
  obtain ⟨k2, h⟩ := f_if_ok h
  obtain ⟨k3, h⟩ := f_if_ok h
  obtain ⟨k4, h⟩ := f_if_ok h
  obtain ⟨k5, h⟩ := f_if_ok h
  obtain ⟨k6, h⟩ := f_if_ok h
  unfold nm_as
  rw [e1, e2, e3, e4, e5, e6]
  exact fb_in (bq_t q1) (fb_in k2 (fb_in k3 (fb_in k4 (fb_in (bq_t k1) (fb_in k5 (fb_in k6 (k0 _ (n_wK_mono h fun M' hk => G _ _ _ _ _ _ _ _ (W.ss hs3) hk))))))))
theorem be_8 {len : Nat} (h : Nat.ble len 16384 = true) : be (0, Nat.mul 8 len) := by
  have h := Nat.ble_eq.mp h
  have := nW_35
  exact be_0 (by show 8 * len < nW; omega) (by show 8 * len % 8 = 0; omega)
theorem bs_ln_ok {y np : Nat} {ng : nG} : b_ok (bs_ln ng y np) (nm_ln ng y np) := by
  intro d L ov S ss I M F K Q W G R h
  obtain ⟨e, S1, s1, he, hs1, e1, e2, h⟩ := pk_pop W.1 h
  unfold nm_ln
  rw [e1, e2]
  obtain ⟨m, c⟩ := e
  rcases b_if_t h with ⟨g, h⟩ | ⟨-, h⟩
  · obtain ⟨q1, q2, q3⟩ := he.2.2.2.2.2.2.2 (Nat.eq_of_beq_eq_true g)
    obtain ⟨k4, h⟩ := f_if_ok h
    obtain ⟨k5, h⟩ := f_if_ok h
    obtain ⟨k6, h⟩ := f_if_ok h
    exact fb_in (bq_t q1) (n_arr_s (by show 1 ≤ c / 8; omega) q3 (fb_in k4 (fb_in k5 (fb_in k6 (G _ _ _ _ _ _ _ _ (W.push (be_8 k6) hs1) h)))))
  · obtain ⟨q1, h⟩ := b_A_ok he h
    obtain ⟨k2, h⟩ := f_if_ok h
    obtain ⟨k3, h⟩ := f_if_ok h
    obtain ⟨k4, h⟩ := f_if_ok h
    obtain ⟨k5, h⟩ := f_if_ok h
    obtain ⟨k6, h⟩ := f_if_ok h
    exact fb_in (bq_t q1) (n_arr_h (fb_in k2 (fb_in k3 (fb_in k4 (fb_in k5 (fb_in k6 (G _ _ _ _ _ _ _ _ (W.push (be_8 k6) hs1) h)))))))
/-! calls -/
def bcl (ov : bO) : Prop := ∀ (k : Nat) (x : Nat × Nat × Nat), bo_at ov k = some x → x.1 = 0
theorem bcl_nil : bcl [] := by
  intro k x h
  rw [bo_nil] at h
  cases h
theorem bcl_cons {ov : bO} {e : bE} (h : bcl ov) : bcl (some (0, e) :: ov) := by
  intro k x hx
  cases k with
  | zero =>
    cases hx
    rfl
  | succ k => exact h k x hx
theorem bow_cons {acc : Nat} {ov : bO} {e : bE} (h : bow acc ov) (he : be e) : bow (Nat.add (Nat.mul acc nW) e.2) (some (0, e) :: ov) := by
  have hW : 0 < nW := by decide
  intro k x hx
  cases k with
  | zero =>
    cases hx
    refine ⟨he, fun _ => ?_⟩
    show e.2 = (acc * nW + e.2) / nW ^ 0 % nW
    rw [Nat.pow_zero, Nat.div_one, Nat.mul_comm, Nat.mul_add_mod, Nat.mod_eq_of_lt he.1]
  | succ k =>
    obtain ⟨h1, h2⟩ := h k x hx
    refine ⟨h1, fun q => ?_⟩
    rw [cd_succ, h2 q]
    show cd acc k = cd ((acc * nW + e.2) / nW) k
    rw [Nat.mul_comm, Nat.mul_add_div hW, Nat.div_eq_of_lt he.1, Nat.add_zero]
theorem pk_clean {acc : Nat} {ov : bO} (h : bow acc ov) (hc : bcl ov) : pk_L acc 0 ov = acc := by
  refine nl_ext fun k => ?_
  rw [cd_pk _ acc 0 h.lt, if_neg (Nat.not_lt_zero k), Nat.sub_zero]
  cases hq : bo_at ov k with
  | none => rfl
  | some x =>
    show (if x.1 = 0 then cd acc k else x.2.2) = cd acc k
    rw [if_pos (hc k x hq)]
theorem b_cp_ok {K : Nat → List bE → Nat → bO → Nat → Bool} {X : Nat → Nat → Nat → Bool} (hX : ∀ (S' : Nat) (ss' : List bE) (acc' : Nat) (ov' : bO) (c' : Nat), (∀ e ∈ ss', be e) → bow acc' ov' → bcl ov' → K S' ss' acc' ov' c' = true → X (pk_S S' ss') acc' c' = true) : ∀ (t S : Nat) (ss : List bE) (acc : Nat) (ov : bO) (c : Nat), (∀ e ∈ ss, be e) → bow acc ov → bcl ov → b_cp false K t S ss acc ov c = true → ncp false X t (pk_S S ss) acc c = true := by
  intro t
  induction t with
  | zero =>
    intro S ss acc ov c hs hb hc h
    exact hX S ss acc ov c hs hb hc h
  | succ t ih =>
    intro S ss acc ov c hs hb hc h
    have h : b_pop S ss (fun e S ss => @Prod.rec Nat Nat (fun _ => Bool) (fun m x => b_if (Nat.beq m 1) (b_cp false K t S ss (Nat.add (Nat.mul (Nat.add (Nat.mul acc nW) 4) nW) x) (some (0, 1, x) :: some (0, 4, 4) :: ov) (Nat.succ (Nat.succ c))) (b_1 false (m, x) (b_cp false K t S ss (Nat.add (Nat.mul acc nW) x) (some (0, m, x) :: ov) (Nat.succ c)))) e) = true := h
    obtain ⟨e, S1, s1, he, hs1, e1, e2, h⟩ := pk_pop hs h
    show @Bool.rec (fun _ => Bool) (f_if false (n_c1 (Nat.mod (pk_S S ss) nW)) (ncp false X t (Nat.div (pk_S S ss) nW) (Nat.add (Nat.mul acc nW) (Nat.mod (pk_S S ss) nW)) (Nat.succ c))) (ncp false X t (Nat.div (pk_S S ss) nW) (Nat.add (Nat.mul (Nat.add (Nat.mul acc nW) 4) nW) (Nat.mod (pk_S S ss) nW)) (Nat.succ (Nat.succ c))) (n_t1 (Nat.mod (pk_S S ss) nW)) = true
    rw [e1, e2]
    obtain ⟨m, x⟩ := e
    rcases b_if_t h with ⟨g, h⟩ | ⟨g, h⟩
    · have q := he.2.2.2.1 (Nat.eq_of_beq_eq_true g)
      have q2 : n_t1 x = true := by rw [(n_8f q).2.1]; rfl
      show @Bool.rec (fun _ => Bool) _ _ (n_t1 x) = true
      rw [q2]
      exact ih _ _ _ _ _ hs1 (bow_cons (e := (1, x)) (bow_cons (e := (4, 4)) hb be_4) (be_1 he.1 q)) (bcl_cons (bcl_cons hc)) h
    · obtain ⟨k1, k2, h⟩ := b_1_ok he h
      rw [k2]
      exact fb_in k1 (ih _ _ _ _ _ hs1 (bow_cons hb he) (bcl_cons hc) h)
theorem ar_1 {p b x c : Nat} (h : b < x) (h2 : p + x ≤ c) : p + b + 1 ≤ c := by omega
theorem pk_S_lt (S : Nat) : ∀ ss : List bE, (∀ e ∈ ss, be e) → pk_S S ss + 1 ≤ (S + 1) * nW ^ ss.length := by
  intro ss
  induction ss with
  | nil =>
    intro _
    show S + 1 ≤ (S + 1) * nW ^ 0
    rw [Nat.pow_zero, Nat.mul_one]
    exact Nat.le_refl _
  | cons e r ih =>
    intro hs
    have h1 := ih (fun q hq => hs q (List.mem_cons_of_mem _ hq))
    have h2 := (hs e List.mem_cons_self).1
    have h3 : (pk_S S r + 1) * nW ≤ (S + 1) * nW ^ r.length * nW := Nat.mul_le_mul_right nW h1
    show pk_S S r * nW + e.2 + 1 ≤ (S + 1) * nW ^ (r.length + 1)
    rw [Nat.pow_succ, ← Nat.mul_assoc]
    rw [Nat.add_mul, Nat.one_mul] at h3
    exact ar_1 h2 h3
theorem sm_in {S c : Nat} {ss : List bE} {K : Bool} (hs : ∀ e ∈ ss, be e) (hc : c * nW ^ ss.length ≤ 9394170331095332911557922387157348109502730195633279482829163886128836100458433773854795993539074812127739904) (h : f_if false (Nat.ble (Nat.succ S) c) K = true) : n_sm (pk_S S ss) = true ∧ K = true := by
  obtain ⟨h1, h⟩ := f_if_ok h
  refine ⟨?_, h⟩
  have h1 : S + 1 ≤ c := Nat.ble_eq.mp h1
  have h2 := pk_S_lt S ss hs
  have h3 : (S + 1) * nW ^ ss.length ≤ c * nW ^ ss.length := Nat.mul_le_mul_right _ h1
  have h4 : Nat.ble (Nat.succ (pk_S S ss)) 9394170331095332911557922387157348109502730195633279482829163886128836100458433773854795993539074812127739904 = true := bl_t (Nat.le_trans h2 (Nat.le_trans h3 hc))
  unfold n_sm
  rw [h4]
theorem b_sm_ok {S : Nat} {ss : List bE} {K : Bool} (hs : ∀ e ∈ ss, be e) (h : b_sm false S ss K = true) : n_sm (pk_S S ss) = true ∧ K = true := by
  cases ss with
  | nil => exact sm_in hs (by show 9394170331095332911557922387157348109502730195633279482829163886128836100458433773854795993539074812127739904 * nW ^ 0 ≤ _; decide) h
  | cons e0 r1 =>
    cases r1 with
    | nil => exact sm_in hs (by show 1989292945639146568621528992587283360401824603189390869761855907572637988050133502132224 * nW ^ 1 ≤ _; decide) h
    | cons e1 r2 =>
      cases r2 with
      | nil => exact sm_in hs (by show 421249166674228746791672110734681729275580381602196445017243910144 * nW ^ 2 ≤ _; decide) h
      | cons e2 r3 =>
        cases r3 with
        | nil => exact sm_in hs (by show 89202980794122492566142873090593446023921664 * nW ^ 3 ≤ _; decide) h
        | cons e3 r4 =>
          cases r4 with
          | nil => exact sm_in hs (by show 18889465931478580854784 * nW ^ 4 ≤ _; decide) h
          | cons e4 r5 =>
            exact f_if_ok h
theorem b_go_ok {b y np acc d L S : Nat} {ov ov2 : bO} {ss : List bE} {I : List bF} {M : nM} {F : List nF} {K : bK} {Q : nK} (W : bwf d L ov ss I) (hb : bow acc ov2) (hc : bcl ov2) (G : bG d F K Q) (h : b_go false K b y np acc ov2 d L ov S ss I M = true) : n_go false Q b y np acc (d - I.length) (pk_L L 0 ov) (pk_S S ss) (pk_F F I) M = true := by
  obtain ⟨h1, h⟩ := b_sm_ok W.1 h
  obtain ⟨h2, h⟩ := f_if_ok h
  have h2 : I.length + 1 ≤ d := Nat.ble_eq.mp h2
  have hI : ∀ f ∈ ((y, np, L, ov, S, ss) :: I : List bF), (∀ e ∈ f.2.2.2.2.2, be e) ∧ bow f.2.2.1 f.2.2.2.1 := by
    intro f hf
    rcases List.mem_cons.mp hf with r | r
    · rw [r]
      exact ⟨W.1, W.2.1⟩
    · exact W.2.2.1 f r
  have W' : bwf d acc ov2 [] ((y, np, L, ov, S, ss) :: I) := ⟨fun e q => (nomatch q), hb, hI, h2⟩
  have := G _ _ _ _ _ _ _ _ W' h
  rw [pk_clean hb hc] at this
  obtain ⟨m, hm⟩ : ∃ m, d - I.length = m + 1 := ⟨d - I.length - 1, by omega⟩
  have hm2 : d - ((y, np, L, ov, S, ss) :: I : List bF).length = m := by
    show d - (I.length + 1) = m
    omega
  rw [hm2] at this
  unfold n_go
  rw [hm]
  exact fb_in h1 this
theorem bs_qs_ok {b t x pad y np : Nat} : b_ok (bs_qs b t x pad y np) (nq_s b t x pad y np) := by
  intro d L ov S ss I M F K Q W G R h
  refine b_cp_ok ?_ t S ss pad [] 0 W.1 (bow_nil _) bcl_nil h
  intro S' ss' acc' ov' c' hs hb hc h
  obtain ⟨k1, h⟩ := f_if_ok h
  exact fb_in k1 (b_go_ok (W.ss hs) hb hc G h)
theorem bs_qv_ok {b t x pad cl y np : Nat} : b_ok (bs_qv b t x pad cl y np) (nq_v b t x pad cl y np) := by
  intro d L ov S ss I M F K Q W G R h
  refine b_cp_ok ?_ t S ss pad [] 0 W.1 (bow_nil _) bcl_nil h
  intro S' ss' acc' ov' c' hs hb hc h
  obtain ⟨k1, h⟩ := f_if_ok h
  obtain ⟨e, S1, s1, he, hs1, e1, e2, h⟩ := pk_pop hs h
  obtain ⟨q1, h⟩ := b_A_ok he h
  obtain ⟨k2, h⟩ := f_if_ok h
  obtain ⟨k3, h⟩ := f_if_ok h
  obtain ⟨k4, h⟩ := f_if_ok h
  have k2' : 64 ≤ e.2 / 8 := Nat.ble_eq.mp k2
  rw [e1, e2]
  exact fb_in k1 (fb_in (bq_t q1) (fb_in k2 (fb_in k3 (fb_in k4 (b_go_ok (W.ss hs1) (bow_cons (e := (2, e.2)) hb (be_2 he.1 q1 (by omega))) (bcl_cons hc) G h)))))
theorem bs_qi_ok {b t x pad y np : Nat} : b_ok (bs_qi b t x pad y np) (nq_i b t x pad y np) := by
  intro d L ov S ss I M F K Q W G R h
  refine b_cp_ok ?_ t S ss pad [] 0 W.1 (bow_nil _) bcl_nil h
  intro S' ss' acc' ov' c' hs hb hc h
  obtain ⟨k1, h⟩ := f_if_ok h
  obtain ⟨e, S1, s1, he, hs1, e1, e2, h⟩ := pk_pop hs h
  obtain ⟨q1, h⟩ := b_A_ok he h
  obtain ⟨k2, h⟩ := f_if_ok h
  have k2' : 64 ≤ e.2 / 8 := Nat.ble_eq.mp k2
  rw [e1, e2]
  exact fb_in k1 (fb_in (bq_t q1) (fb_in k2 (b_go_ok (W.ss hs1) (bow_cons (e := (2, e.2)) hb (be_2 he.1 q1 (by omega))) (bcl_cons hc) G h)))
/-! answers -/
theorem bwf.up {d L : Nat} {ov : bO} {ss : List bE} {f : bF} {r : List bF} (h : bwf d L ov ss (f :: r)) : bwf d f.2.2.1 f.2.2.2.1 f.2.2.2.2.2 r ∧ Nat.succ (d - (f :: r).length) = d - r.length := by
  obtain ⟨-, -, h3, h4⟩ := h
  have h4 : r.length + 1 ≤ d := h4
  obtain ⟨q1, q2⟩ := h3 f List.mem_cons_self
  exact ⟨⟨q1, q2, fun g hg => h3 g (List.mem_cons_of_mem _ hg), by omega⟩, by show d - (r.length + 1) + 1 = _; omega⟩
theorem bs_r0_ok : b_ok bs_r0 nr_0 := by
  intro d L ov S ss I M F K Q W G R h
  cases ss with
  | cons e r => cases h
  | nil =>
    obtain ⟨k1, h⟩ := f_if_ok h
    cases I with
    | nil => cases h
    | cons f r =>
      obtain ⟨y', np', L', ov', S', ss'⟩ := f
      obtain ⟨W', e⟩ := W.up
      have := G _ _ _ _ _ _ _ _ W' h
      refine fb_in k1 ?_
      show Q (Nat.succ (d - ((y', np', L', ov', S', ss') :: r : List bF).length)) y' np' (pk_L L' 0 ov') (pk_S S' ss') (pk_F F r) M = true
      rw [e]
      exact this
def br_ok (k m : Nat) (t : Nat → Bool) : Prop := ∀ (e : bE) (K : Nat → Bool), be e → b_rt k false e K = true → t e.2 = true ∧ be (m, e.2) ∧ K e.2 = true
theorem br_1 : br_ok 1 0 n_t0 := by
  intro e K he h
  obtain ⟨h1, h⟩ := b_I_ok he h
  exact ⟨by rw [(n_8f h1).1]; rfl, be_0 he.1 h1, h⟩
theorem br_2 : br_ok 2 0 n_z := by
  intro e K he h
  have h : b_I false e (fun c => f_if false (n_z c) (K c)) = true := h
  obtain ⟨h1, h⟩ := b_I_ok he h
  obtain ⟨h2, h⟩ := f_if_ok h
  exact ⟨h2, be_0 he.1 h1, h⟩
theorem br_3 : br_ok 3 1 n_t1 := by
  intro e K he h
  obtain ⟨h1, h⟩ := b_J_ok he h
  exact ⟨by rw [(n_8f h1).2.1]; rfl, be_1 he.1 h1, h⟩
theorem br_5 : br_ok 5 3 n_r := by
  intro e K he h
  obtain ⟨h1, h⟩ := b_A_ok he h
  exact ⟨bq_t h1, be_3 he.1 h1, h⟩
theorem bs_r1_ok {k m : Nat} {t : Nat → Bool} (ht : br_ok k m t) : b_ok (bs_r1 k m) (nr_1 t) := by
  intro d L ov S ss I M F K Q W G R h
  cases ss with
  | nil => cases h
  | cons e r1 =>
    cases r1 with
    | cons e' r' => cases h
    | nil =>
      have he := W.1 e List.mem_cons_self
      obtain ⟨h1, h2, h⟩ := ht _ _ he h
      obtain ⟨k1, h⟩ := f_if_ok h
      have hW : 0 < nW := by decide
      have m1 : Nat.mod (pk_S S [e]) nW = e.2 := by
        show (S * nW + e.2) % nW = e.2
        rw [Nat.mul_comm, Nat.mul_add_mod, Nat.mod_eq_of_lt he.1]
      have m2 : Nat.div (pk_S S [e]) nW = S := by
        show (S * nW + e.2) / nW = S
        rw [Nat.mul_comm, Nat.mul_add_div hW, Nat.div_eq_of_lt he.1, Nat.add_zero]
      cases I with
      | nil => cases h
      | cons f r =>
        obtain ⟨y', np', L', ov', S', ss'⟩ := f
        obtain ⟨W', e'⟩ := W.up
        have := G _ _ _ _ _ _ _ _ (W'.push h2 W'.1) h
        unfold nr_1
        rw [m1, m2]
        refine fb_in k1 (fb_in h1 ?_)
        show Q (Nat.succ (d - ((y', np', L', ov', S', ss') :: r : List bF).length)) y' np' (pk_L L' 0 ov') (Nat.add (Nat.mul (pk_S S' ss') nW) e.2) (pk_F F r) M = true
        rw [e']
        exact this
