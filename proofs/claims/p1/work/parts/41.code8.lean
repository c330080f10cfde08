/-! THE CODED EVALUATOR: each row's own step -/
noncomputable def n_no : nC := fun _ _ _ _ _ _ z => z
theorem np_istore {ρ : Nat → Int} {c k : Nat} {lv : List (Option eV)} {st : List eV} {e : eV} (h : n_t0 c = true) (hc : cr ρ c e) (hl : k < lv.length) : ev_srI lv k (e :: st) = some (ev_st1 lv k e, st) := by
  obtain ⟨z, rfl⟩ := n_t0_ok h hc
  show (if k < lv.length then _ else none) = _
  rw [if_pos hl]
theorem np_astore {ρ : Nat → Int} {c k : Nat} {lv : List (Option eV)} {st : List eV} {e : eV} (h : n_t4 c = true) (hc : cr ρ c e) (hl : k < lv.length) : ev_srR lv k (e :: st) = some (ev_st1 lv k e, st) := by
  obtain ⟨z, rfl, h0, -⟩ := n_t4_ok h hc
  show (if k < lv.length ∧ 0 < z then _ else none) = _
  rw [if_pos ⟨hl, h0⟩]
theorem np_lstore {k : Nat} {lv : List (Option eV)} {st : List eV} {z : Int} (hl : k + 1 < lv.length) : ev_srJ lv k (eJ z :: st) = some (ev_st2 lv k (eJ z), st) := by
  show (if k + 1 < lv.length then _ else none) = _
  rw [if_pos hl]
theorem nj_nn {off : Int} {n pc r : Nat} {st : List eV} (hn : n = 3) (h0 : 0 ≤ (pc : Int) + off) : ev_j (.ifnonnull off) n pc (eR r :: st) = some (if r = 0 then pc + 3 else ((pc : Int) + off).toNat, st) := by
  show (if n = 3 then ev_b pc off (¬ r = 0) st else none) = _
  rw [if_pos hn]
  unfold ev_b
  rw [if_pos h0]
  by_cases hr : r = 0
  · rw [if_neg (fun q => q hr), if_pos hr]
  · rw [if_pos hr, if_neg hr]
theorem nj_nl {off : Int} {n pc r : Nat} {st : List eV} (hn : n = 3) (h0 : 0 ≤ (pc : Int) + off) : ev_j (.ifnull off) n pc (eR r :: st) = some (if r = 0 then ((pc : Int) + off).toNat else pc + 3, st) := by
  show (if n = 3 then ev_b pc off (r = 0) st else none) = _
  rw [if_pos hn]
  unfold ev_b
  rw [if_pos h0]
  by_cases hr : r = 0
  · rw [if_pos hr, if_pos hr]
  · rw [if_neg hr, if_neg hr]
/-! a state and what it stands for -/
abbrev nSt : Type := Nat × nF × List nF × nM
def nfr (ρ : Nat → Int) (f : nF) (g : eFr) : Prop := f.1 = g.1 ∧ f.2.1 = g.2.1 ∧ g.2.2.1.length = dt_mx f.1 ∧ nL ρ f.2.2.1 g.2.2.1 ∧ nS ρ f.2.2.2 g.2.2.2
def nfs (ρ : Nat → Int) : List nF → List eFr → Prop
  | [], [] => True
  | f :: fs, g :: gs => nfr ρ f g ∧ nfs ρ fs gs
  | _, _ => False
def nst (ρ : Nat → Int) (N : nSt) (E : eSt) : Prop := N.1 = E.1 ∧ nfr ρ N.2.1 E.2.1 ∧ nfs ρ N.2.2.1 E.2.2.1 ∧ nmem ρ N.2.2.2 E.2.2.2
/-- one step, handed on -/
def nQ (ρ : Nat → Int) (fg : eG) (E : eSt) (Q : nK) : Prop := ∃ (E' : eSt) (d y pc L S : Nat) (F : List nF) (M : nM), ex_1 fg E = some (.inl E') ∧ nst ρ (d, (y, pc, L, S), F, M) E' ∧ Q d y pc L S F M = true
theorem xs_s {fg : eG} {d y pc n : Nat} {z : Nat × Nat × Nat × Nat} {i : Instr} {x : Int} {lv lv' : List (Option eV)} {st st' : List eV} {F : List eFr} {μ : eM} (hr : (dt_co y).get pc = (pc, i, n, z, x)) (h : ev_s i lv st = some (lv', st')) : ex_1 fg (d, (y, pc, lv, st), F, μ) = some (.inl (d, (y, pc + ev_len i, lv', st'), F, μ)) := by
  unfold ex_1
  dsimp only
  rw [hr]
  have hev : ev_1 fg d y pc (pc, i, n, z, x) lv st μ = some (.inl (.inl (pc + ev_len i, lv', st', μ))) := by
    unfold ev_1
    dsimp only
    rw [if_pos rfl, h]
  rw [hev]
theorem xs_q {fg : eG} {d y pc n a b t pl : Nat} {i : Instr} {x : Int} {lv : List (Option eV)} {st as rs : List eV} {F : List eFr} {μ : eM} (hr : (dt_co y).get pc = (pc, i, n, (a, b, t, pl), x)) (hk : dt_kl i = 4) (ha : a ≤ 2) (hd : 0 < d) (h : ev_cl2 μ i a b t st = some (as, rs)) : ex_1 fg (d, (y, pc, lv, st), F, μ) = some (.inl (d - 1, (b, 0, ev_en (dt_mx b) as, []), (y, pc + 3, lv, rs) :: F, μ)) := by
  unfold ex_1
  dsimp only
  rw [hr]
  have hno : ev_o d i a st μ = none := by
    cases hq : ev_o d i a st μ with
    | none => rfl
    | some w => rcases ev_o_ok (st' := w.1) (μ' := w.2) hq with ⟨-, -, -, -, h9, -⟩ | ⟨-, -, -, -, -, -, -, h9, -⟩ | ⟨-, -, -, -, -, -, -, -, -, -, -, h9, -⟩ <;> omega
  have hev : ev_1 fg d y pc (pc, i, n, (a, b, t, pl), x) lv st μ = some (.inr (b, as, rs)) := by
    unfold ev_1
    dsimp only
    rw [if_pos rfl, kl_s (by rw [hk]; decide)]
    dsimp only
    rw [kl_j (by rw [hk]; decide)]
    dsimp only
    rw [kl_m (by rw [hk]; decide)]
    dsimp only
    rw [hno]
    dsimp only
    rw [kl_rt (by rw [hk]; decide)]
    dsimp only
    rw [h]
  rw [hev]
  dsimp only
  rw [if_pos hd]
theorem xs_o {fg : eG} {d y pc n a b t pl : Nat} {i : Instr} {x : Int} {lv : List (Option eV)} {st st' : List eV} {F : List eFr} {μ μ' : eM} (hr : (dt_co y).get pc = (pc, i, n, (a, b, t, pl), x)) (hk : dt_kl i = 4) (h : ev_o d i a st μ = some (st', μ')) : ex_1 fg (d, (y, pc, lv, st), F, μ) = some (.inl (d, (y, pc + 3, lv, st'), F, μ')) := by
  unfold ex_1
  dsimp only
  rw [hr]
  have hev : ev_1 fg d y pc (pc, i, n, (a, b, t, pl), x) lv st μ = some (.inl (.inl (pc + 3, lv, st', μ'))) := by
    unfold ev_1
    dsimp only
    rw [if_pos rfl, kl_s (by rw [hk]; decide)]
    dsimp only
    rw [kl_j (by rw [hk]; decide)]
    dsimp only
    rw [kl_m (by rw [hk]; decide)]
    dsimp only
    rw [h]
  rw [hev]
theorem xs_rt {fg : eG} {d y pc n : Nat} {z : Nat × Nat × Nat × Nat} {i : Instr} {x : Int} {lv : List (Option eV)} {st : List eV} {μ : eM} {r : Option eV} (hr : (dt_co y).get pc = (pc, i, n, z, x)) (hk : dt_kl i = 3) (h : ev_rt y i st = some r) : ev_1 fg d y pc ((dt_co y).get pc) lv st μ = some (.inl (.inr r)) := by
  rw [hr]
  unfold ev_1
  dsimp only
  rw [if_pos rfl, kl_s (by rw [hk]; decide)]
  dsimp only
  rw [kl_j (by rw [hk]; decide)]
  dsimp only
  rw [kl_m (by rw [hk]; decide)]
  dsimp only
  rw [kl_o (by rw [hk]; decide)]
  dsimp only
  rw [h]
theorem nx_s {ρ : Nat → Int} {fg : eG} {d y pc n L S : Nat} {z : Nat × Nat × Nat × Nat} {i : Instr} {x : Int} {F : List nF} {M : nM} {E : eSt} {Q : nK} {f : nC} (hr : (dt_co y).get pc = (pc, i, n, z, x)) (hE : nst ρ (d, (y, pc, L, S), F, M) E) (hf : np_ok i y (pc + ev_len i) f) (h : f d L S F M Q false = true) : nQ ρ fg E Q := by
  obtain ⟨d', ⟨y', pc', lv, st⟩, eF', μ⟩ := E
  obtain ⟨e1, ⟨e2, e3, hlen, hL, hS⟩, hF, hm⟩ := hE
  dsimp only at e1 e2 e3 hlen hL hS hF hm
  subst e1
  subst e2
  subst e3
  obtain ⟨L', S', lv', st', h1, h2, h3, h4, h5⟩ := hf ρ d L S F M Q lv st hlen hL hS h
  exact ⟨_, _, _, _, _, _, _, _, xs_s hr h1, ⟨rfl, ⟨rfl, rfl, h2.trans hlen, h3, h4⟩, hF, hm⟩, h5⟩
theorem nx_j {ρ : Nat → Int} {fg : eG} {d y pc n L S : Nat} {z : Nat × Nat × Nat × Nat} {i : Instr} {x : Int} {F : List nF} {M : nM} {E : eSt} {Q : nK} {f : nC} (hr : (dt_co y).get pc = (pc, i, n, z, x)) (hE : nst ρ (d, (y, pc, L, S), F, M) E) (hk : dt_kl i = 1) (hf : nj_ok i n pc y f) (h : f d L S F M Q false = true) : nQ ρ fg E Q := by
  obtain ⟨d', ⟨y', pc', lv, st⟩, eF', μ⟩ := E
  obtain ⟨e1, ⟨e2, e3, hlen, hL, hS⟩, hF, hm⟩ := hE
  dsimp only at e1 e2 e3 hlen hL hS hF hm
  subst e1
  subst e2
  subst e3
  obtain ⟨np, S', st', h1, h2, h3⟩ := hf ρ d L S F M Q st hS h
  exact ⟨_, _, _, _, _, _, _, _, xs_j hr hk h1, ⟨rfl, ⟨rfl, rfl, hlen, hL, h2⟩, hF, hm⟩, h3⟩
theorem nx_m {ρ : Nat → Int} {ng : nG} {fg : eG} {d y pc n a b t pl L S : Nat} {i : Instr} {x : Int} {F : List nF} {M : nM} {E : eSt} {Q : nK} {f : nC} (hg : ng_r ρ ng fg) (hr : (dt_co y).get pc = (pc, i, n, (a, b, t, pl), x)) (hE : nst ρ (d, (y, pc, L, S), F, M) E) (hk : dt_kl i = 2) (hf : nm_ok ng i a b t x y (pc + n) f) (h : f d L S F M Q false = true) : nQ ρ fg E Q := by
  obtain ⟨d', ⟨y', pc', lv, st⟩, eF', μ⟩ := E
  obtain ⟨e1, ⟨e2, e3, hlen, hL, hS⟩, hF, hm⟩ := hE
  dsimp only at e1 e2 e3 hlen hL hS hF hm
  subst e1
  subst e2
  subst e3
  obtain ⟨S', M', st', μ', h1, h2, h3, h4⟩ := hf ρ fg d L S F M Q st μ hg hS hm h
  exact ⟨_, _, _, _, _, _, _, _, xs_m hr hk h1, ⟨rfl, ⟨rfl, rfl, hlen, hL, h2⟩, hF, h3⟩, h4⟩
theorem ev_en_len {n : Nat} {as : List eV} (h : (ev_sl1 as).length ≤ n) : (ev_en n as).length = n := by
  unfold ev_en
  rw [List.length_append, List.length_replicate]
  omega
theorem nx_q {ρ : Nat → Int} {fg : eG} {d y pc n a b t pl L S : Nat} {i : Instr} {x : Int} {F : List nF} {M : nM} {E : eSt} {Q : nK} {f : nC} (hr : (dt_co y).get pc = (pc, i, n, (a, b, t, pl), x)) (hE : nst ρ (d, (y, pc, L, S), F, M) E) (hk : dt_kl i = 4) (ha : a ≤ 2) (hf : nq_ok i a b t y pc f) (h : f d L S F M Q false = true) : nQ ρ fg E Q := by
  obtain ⟨d', ⟨y', pc', lv, st⟩, eF', μ⟩ := E
  obtain ⟨e1, ⟨e2, e3, hlen, hL, hS⟩, hF, hm⟩ := hE
  dsimp only at e1 e2 e3 hlen hL hS hF hm
  subst e1
  subst e2
  subst e3
  obtain ⟨as, rs, L', S', h1, h2, h3, h4, h5⟩ := hf ρ d L S F M Q st μ hS hm h
  exact ⟨_, d - 1, b, 0, L', 4, (y, pc + 3, L, S') :: F, M, xs_q hr hk ha h2 h1, ⟨rfl, ⟨rfl, rfl, ev_en_len (ev_cl2_sl h1), h3, rfl⟩, ⟨⟨rfl, rfl, hlen, hL, h4⟩, hF⟩, hm⟩, h5⟩
theorem nx_o {ρ : Nat → Int} {fg : eG} {d y pc n b t pl idx L S : Nat} {x : Int} {F : List nF} {M : nM} {E : eSt} {Q : nK} (hr : (dt_co y).get pc = (pc, .invokespecial idx, n, (10, b, t, pl), x)) (hE : nst ρ (d, (y, pc, L, S), F, M) E) (h : nq_o y (pc + 3) d L S F M Q false = true) : nQ ρ fg E Q := by
  obtain ⟨d', ⟨y', pc', lv, st⟩, eF', μ⟩ := E
  obtain ⟨e1, ⟨e2, e3, hlen, hL, hS⟩, hF, hm⟩ := hE
  dsimp only at e1 e2 e3 hlen hL hS hF hm
  subst e1
  subst e2
  subst e3
  obtain ⟨s, S', h1, h2, h3⟩ := nq_o_ok (idx := idx) (μ := μ) hS h
  exact ⟨_, _, _, _, _, _, _, _, xs_o hr rfl h1, ⟨rfl, ⟨rfl, rfl, hlen, hL, h2⟩, hF, hm⟩, h3⟩
theorem nx_r0 {ρ : Nat → Int} {fg : eG} {d y pc n L S : Nat} {z : Nat × Nat × Nat × Nat} {x : Int} {F : List nF} {M : nM} {E : eSt} {Q : nK} (hr : (dt_co y).get pc = (pc, .return_, n, z, x)) (hE : nst ρ (d, (y, pc, L, S), F, M) E) (h0 : (dt_pl y).2.1 = 0) (h : nr_0 d L S F M Q false = true) : nQ ρ fg E Q := by
  obtain ⟨d', ⟨y', pc', lv, st⟩, eF', μ⟩ := E
  obtain ⟨e1, ⟨e2, e3, hlen, hL, hS⟩, hF, hm⟩ := hE
  dsimp only at e1 e2 e3 hlen hL hS hF hm
  subst e1
  subst e2
  subst e3
  obtain ⟨f, fs, h1, rfl, h3⟩ := nr_0_ok h0 hS h
  cases eF' with
  | nil => exact absurd hF id
  | cons g gs =>
    obtain ⟨⟨f1, f2, f3, f4, f5⟩, hF2⟩ := hF
    refine ⟨(d + 1, (g.1, g.2.1, g.2.2.1, g.2.2.2), gs, μ), _, _, _, _, _, _, _, ?_, ⟨rfl, ⟨f1, f2, f3, f4, f5⟩, hF2, hm⟩, h3⟩
    unfold ex_1
    dsimp only
    rw [xs_rt hr rfl h1]
    rfl
theorem nx_r1 {ρ : Nat → Int} {fg : eG} {d y pc n L S : Nat} {z : Nat × Nat × Nat × Nat} {i : Instr} {x : Int} {F : List nF} {M : nM} {E : eSt} {Q : nK} {t : Nat → Bool} (hr : (dt_co y).get pc = (pc, i, n, z, x)) (hE : nst ρ (d, (y, pc, L, S), F, M) E) (hk : dt_kl i = 3) (ht : ∀ c, t c = true → c % 8 ≠ 4) (hi : ∀ (c : Nat) (e : eV), t c = true → cr ρ c e → ev_rt y i [e] = some (some e)) (h : nr_1 t d L S F M Q false = true) : nQ ρ fg E Q := by
  obtain ⟨d', ⟨y', pc', lv, st⟩, eF', μ⟩ := E
  obtain ⟨e1, ⟨e2, e3, hlen, hL, hS⟩, hF, hm⟩ := hE
  dsimp only at e1 e2 e3 hlen hL hS hF hm
  subst e1
  subst e2
  subst e3
  obtain ⟨e, f, fs, S', h1, rfl, h2, h3⟩ := nr_1_ok ht hi hS h
  cases eF' with
  | nil => exact absurd hF id
  | cons g gs =>
    obtain ⟨⟨f1, f2, f3, f4, f5⟩, hF2⟩ := hF
    refine ⟨(d + 1, (g.1, g.2.1, g.2.2.1, e :: g.2.2.2), gs, μ), d + 1, f.1, f.2.1, f.2.2.1, S', fs, M, ?_, ⟨rfl, ⟨f1, f2, f3, f4, h2 _ f5⟩, hF2, hm⟩, h3⟩
    unfold ex_1
    dsimp only
    rw [xs_rt hr hk h1]
    rfl
noncomputable def nv_di (ng : nG) (y pc n a b t : Nat) (x : Int) (i : Instr) : nC × Unit := match i with
  | .iload k => (if k < dt_mx y then np_ld n_t0 (nW ^ k) y (pc + 2) else n_no, ())
  | .iload_n k => (if k.val < dt_mx y then np_ld n_t0 (nW ^ k.val) y (pc + 1) else n_no, ())
  | .lload k => (if k < dt_mx y then np_ld n_t1 (nW ^ k) y (pc + 2) else n_no, ())
  | .lload_n k => (if k.val < dt_mx y then np_ld n_t1 (nW ^ k.val) y (pc + 1) else n_no, ())
  | .aload k => (if k < dt_mx y then np_ld n_t4 (nW ^ k) y (pc + 2) else n_no, ())
  | .aload_n k => (if k.val < dt_mx y then np_ld n_t4 (nW ^ k.val) y (pc + 1) else n_no, ())
  | .istore k => (if k < dt_mx y then np_st n_t0 k (nW ^ k) y (pc + 2) else n_no, ())
  | .istore_n k => (if k.val < dt_mx y then np_st n_t0 k.val (nW ^ k.val) y (pc + 1) else n_no, ())
  | .astore k => (if k < dt_mx y then np_st n_t4 k (nW ^ k) y (pc + 2) else n_no, ())
  | .astore_n k => (if k.val < dt_mx y then np_st n_t4 k.val (nW ^ k.val) y (pc + 1) else n_no, ())
  | .lstore k => (if k + 1 < dt_mx y then np_st2 k (nW ^ k) (nW ^ (k + 1)) y (pc + 2) else n_no, ())
  | .lstore_n k => (if k.val + 1 < dt_mx y then np_st2 k.val (nW ^ k.val) (nW ^ (k.val + 1)) y (pc + 1) else n_no, ())
  | .iinc k m => (if k < dt_mx y then np_inc k (nW ^ k) (8 * (m % 4294967296).toNat) y (pc + 3) else n_no, ())
  | .iconst m => (if ev_w m = m then np_c (n_I m) y (pc + 1) else n_no, ())
  | .lconst m => (np_c (8 * m.val + 1) y (pc + 1), ())
  | .bipush m => (if -128 ≤ m ∧ m ≤ 127 then np_c (n_I m) y (pc + 2) else n_no, ())
  | .sipush m => (if -32768 ≤ m ∧ m ≤ 32767 then np_c (n_I m) y (pc + 3) else n_no, ())
  | .iadd => (np_2 0 0 ng_iadd y (pc + 1), ())
  | .isub => (np_2 0 0 ng_isub y (pc + 1), ())
  | .imul => (np_2 0 0 ng_imul y (pc + 1), ())
  | .ladd => (np_2 1 1 ng_ladd y (pc + 1), ())
  | .lsub => (np_2 1 1 ng_lsub y (pc + 1), ())
  | .lmul => (np_2 1 1 ng_lmul y (pc + 1), ())
  | .iand => (np_2 0 0 ng_iand y (pc + 1), ())
  | .ior => (np_2 0 0 ng_ior y (pc + 1), ())
  | .ixor => (np_2 0 0 ng_ixor y (pc + 1), ())
  | .land => (np_2 1 1 ng_land y (pc + 1), ())
  | .lor => (np_2 1 1 ng_lor y (pc + 1), ())
  | .lxor => (np_2 1 1 ng_lxor y (pc + 1), ())
  | .ishl => (np_2 0 0 ng_ishl y (pc + 1), ())
  | .ishr => (np_2 0 0 ng_ishr y (pc + 1), ())
  | .iushr => (np_2 0 0 ng_iushr y (pc + 1), ())
  | .lshl => (np_2 0 1 ng_lshl y (pc + 1), ())
  | .lshr => (np_2 0 1 ng_lshr y (pc + 1), ())
  | .lushr => (np_2 0 1 ng_lushr y (pc + 1), ())
  | .idiv => (np_idivc y (pc + 1), ())
  | .irem => (np_iremc y (pc + 1), ())
  | .lcmp => (np_2 1 1 ng_lcmp y (pc + 1), ())
  | .ineg => (np_1 0 ng_ineg y (pc + 1), ())
  | .l2i => (np_1 1 ng_l2i y (pc + 1), ())
  | .i2l => (np_1 0 ng_i2l y (pc + 1), ())
  | .i2s => (np_1 0 ng_i2s y (pc + 1), ())
  | .i2b => (np_1 0 ng_i2b y (pc + 1), ())
  | .dup => (np_dupc y (pc + 1), ())
  | .pop => (np_popc y (pc + 1), ())
  | .dup2 => (np_dup2c y (pc + 1), ())
  | .ifCond c off => (if n = 3 ∧ 0 ≤ (pc : Int) + off then nj_if (sv_tg pc off (sv_fl c).1) (sv_tg pc off (sv_fl c).2.1) (sv_tg pc off (sv_fl c).2.2) y else n_no, ())
  | .if_icmp c off => (if n = 3 ∧ 0 ≤ (pc : Int) + off then nj_ic (sv_tg pc off (sv_fl c).1) (sv_tg pc off (sv_fl c).2.1) (sv_tg pc off (sv_fl c).2.2) y else n_no, ())
  | .goto off => (if n = 3 ∧ 0 ≤ (pc : Int) + off then nj_go (((pc : Int) + off).toNat) y else n_no, ())
  | .ifnonnull off => (if n = 3 ∧ 0 ≤ (pc : Int) + off then nj_nu (pc + 3) (((pc : Int) + off).toNat) y else n_no, ())
  | .ifnull off => (if n = 3 ∧ 0 ≤ (pc : Int) + off then nj_nu (((pc : Int) + off).toNat) (pc + 3) y else n_no, ())
  | .getfield idx => (match t with
    | 0 => nm_gf nvI a b (b / 64) (b % 64) y (pc + n)
    | 1 => nm_gf nvI a b (b / 64) (b % 64) y (pc + n)
    | 2 => nm_gf nvJ a b (b / 64) (b % 64) y (pc + n)
    | 3 => nm_gf nvR a b (b / 64) (b % 64) y (pc + n)
    | _ => n_no, ())
  | .putfield idx => (match t with
    | 0 => nm_pf nwI a b (b / 64) (nW ^ (b % 64)) y (pc + n)
    | 1 => nm_pf nwZ a b (b / 64) (nW ^ (b % 64)) y (pc + n)
    | 2 => nm_pf nwJ a b (b / 64) (nW ^ (b % 64)) y (pc + n)
    | 3 => nm_pf nwR a b (b / 64) (nW ^ (b % 64)) y (pc + n)
    | _ => n_no, ())
  | .iaload => (nm_al nvI ng 100 y (pc + n), ())
  | .laload => (nm_al nvJ ng 101 y (pc + n), ())
  | .baload => (nm_bl y (pc + n), ())
  | .iastore => (nm_as nwI 100 y (pc + n), ())
  | .lastore => (nm_as nwJ 101 y (pc + n), ())
  | .bastore => (nm_as nwZ 103 y (pc + n), ())
  | .arraylength => (nm_ln ng y (pc + n), ())
  | .new idx => (nm_nw a (dt_lay a).length y (pc + n), ())
  | .newarray ty => (nm_na a y (pc + n), ())
  | .getstatic idx => (if a < 64 then np_c (8 * a + 2) y (pc + n) else n_no, ())
  | .ldc idx => (if a = 0 ∧ ev_w x = x then np_c (n_I x) y (pc + n) else n_no, ())
  | .ldc_w idx => (if a = 0 ∧ ev_w x = x then np_c (n_I x) y (pc + n) else n_no, ())
  | .ldc2_w idx => (if a = 1 ∧ ev_W x = x then np_c (8 * (x % 18446744073709551616).toNat + 1) y (pc + n) else n_no, ())
  | .invokestatic idx => (if a = 2 ∧ x.toNat ≤ dt_mx b then nq_s b t x.toNat (n_pad (dt_mx b - x.toNat)) y (pc + 3) else n_no, ())
  | .invokevirtual idx => (if a = 0 ∧ x.toNat ≤ dt_mx b then nq_v b t x.toNat (n_pad (dt_mx b - x.toNat)) (dt_pl b).2.2.2.2.2.2.2 y (pc + 3) else n_no, ())
  | .invokespecial idx => (if a = 1 ∧ x.toNat ≤ dt_mx b then nq_i b t x.toNat (n_pad (dt_mx b - x.toNat)) y (pc + 3) else if a = 10 then nq_o y (pc + 3) else n_no, ())
  | .return_ => (if (dt_pl y).2.1 = 0 then nr_0 else n_no, ())
  | .ireturn => (if (dt_pl y).2.1 = 1 then nr_1 n_t0 else if (dt_pl y).2.1 = 2 then nr_1 n_z else n_no, ())
  | .lreturn => (if (dt_pl y).2.1 = 3 then nr_1 n_t1 else n_no, ())
  | .areturn => (if (dt_pl y).2.1 = 5 then nr_1 n_r else n_no, ())
  | _ => (n_no, ())
set_option maxHeartbeats 4000000 in
theorem nv_di_ok {ρ : Nat → Int} {ng : nG} {fg : eG} {i : Instr} {n y pc d a b t pl L S : Nat} {x : Int} {F : List nF} {M : nM} {E : eSt} {Q : nK} (hg : ng_r ρ ng fg) (hr : (dt_co y).get pc = (pc, i, n, (a, b, t, pl), x)) (hE : nst ρ (d, (y, pc, L, S), F, M) E) (h : (nv_di ng y pc n a b t x i).1 d L S F M Q false = true) : nQ ρ fg E Q := by
  cases i
  case iload k =>
    simp only [nv_di] at h
    split at h
    · rename_i h0
      exact nx_s hr hE (np_ld_ok h0 (fun _ => n_t0_4) fun ρ c lv st e h1 h2 h3 => np_iload h1 h2 h3) h
    · exact f_none h
  case iload_n k =>
    simp only [nv_di] at h
    split at h
    · rename_i h0
      exact nx_s hr hE (np_ld_ok h0 (fun _ => n_t0_4) fun ρ c lv st e h1 h2 h3 => np_iload h1 h2 h3) h
    · exact f_none h
  case lload k =>
    simp only [nv_di] at h
    split at h
    · rename_i h0
      exact nx_s hr hE (np_ld_ok h0 (fun _ => n_t1_4) fun ρ c lv st e h1 h2 h3 => np_lload h1 h2 h3) h
    · exact f_none h
  case lload_n k =>
    simp only [nv_di] at h
    split at h
    · rename_i h0
      exact nx_s hr hE (np_ld_ok h0 (fun _ => n_t1_4) fun ρ c lv st e h1 h2 h3 => np_lload h1 h2 h3) h
    · exact f_none h
  case aload k =>
    simp only [nv_di] at h
    split at h
    · rename_i h0
      exact nx_s hr hE (np_ld_ok h0 (fun _ => n_t4_4) fun ρ c lv st e h1 h2 h3 => np_aload h1 h2 h3) h
    · exact f_none h
  case aload_n k =>
    simp only [nv_di] at h
    split at h
    · rename_i h0
      exact nx_s hr hE (np_ld_ok h0 (fun _ => n_t4_4) fun ρ c lv st e h1 h2 h3 => np_aload h1 h2 h3) h
    · exact f_none h
  case istore k =>
    simp only [nv_di] at h
    split at h
    · rename_i h0
      exact nx_s hr hE (np_st_ok h0 (fun _ => n_t0_4) fun ρ c lv st e h1 h2 h3 => np_istore h1 h2 h3) h
    · exact f_none h
  case istore_n k =>
    simp only [nv_di] at h
    split at h
    · rename_i h0
      exact nx_s hr hE (np_st_ok h0 (fun _ => n_t0_4) fun ρ c lv st e h1 h2 h3 => np_istore h1 h2 h3) h
    · exact f_none h
  case astore k =>
    simp only [nv_di] at h
    split at h
    · rename_i h0
      exact nx_s hr hE (np_st_ok h0 (fun _ => n_t4_4) fun ρ c lv st e h1 h2 h3 => np_astore h1 h2 h3) h
    · exact f_none h
  case astore_n k =>
    simp only [nv_di] at h
    split at h
    · rename_i h0
      exact nx_s hr hE (np_st_ok h0 (fun _ => n_t4_4) fun ρ c lv st e h1 h2 h3 => np_astore h1 h2 h3) h
    · exact f_none h
  case lstore k =>
    simp only [nv_di] at h
    split at h
    · rename_i h0
      exact nx_s hr hE (np_st2_ok h0 fun lv st z h1 => np_lstore h1) h
    · exact f_none h
  case lstore_n k =>
    simp only [nv_di] at h
    split at h
    · rename_i h0
      exact nx_s hr hE (np_st2_ok h0 fun lv st z h1 => np_lstore h1) h
    · exact f_none h
  case iinc k m =>
    simp only [nv_di] at h
    split at h
    · rename_i h0
      exact nx_s hr hE (np_inc_ok h0) h
    · exact f_none h
  case iconst m =>
    simp only [nv_di] at h
    split at h
    · rename_i h0
      exact nx_s hr hE (np_c_ok (e := eI m) (n_I_ok (ρ := fun _ => 0) m).2 (fun ρ => by have := (n_I_ok (ρ := ρ) m).1; rw [h0] at this; exact this) (fun _ _ => rfl)) h
    · exact f_none h
  case lconst m =>
    simp only [nv_di] at h
    have hm : m.val < 2 := m.isLt
    have hs : (m.val : Int) = sg64 m.val := by unfold sg64; rw [if_pos (by omega)]
    exact nx_s hr hE (np_c_ok (e := eJ (m.val : Int)) (by have := nW_67; omega) (fun ρ => by rw [hs]; exact cr_J (by omega)) (fun _ _ => rfl)) h
  case bipush m =>
    simp only [nv_di] at h
    split at h
    · rename_i h0
      exact nx_s hr hE (np_c_ok (e := eI m) (n_I_ok (ρ := fun _ => 0) m).2 (fun ρ => by have := (n_I_ok (ρ := ρ) m).1; rw [ev_w_in (by omega) (by omega)] at this; exact this) (fun lv st => by simp only [ev_s]; rw [if_pos h0])) h
    · exact f_none h
  case sipush m =>
    simp only [nv_di] at h
    split at h
    · rename_i h0
      exact nx_s hr hE (np_c_ok (e := eI m) (n_I_ok (ρ := fun _ => 0) m).2 (fun ρ => by have := (n_I_ok (ρ := ρ) m).1; rw [ev_w_in (by omega) (by omega)] at this; exact this) (fun lv st => by simp only [ev_s]; rw [if_pos h0])) h
    · exact f_none h
  case iadd =>
    simp only [nv_di] at h
    exact nx_s hr hE np_iadd h
  case isub =>
    simp only [nv_di] at h
    exact nx_s hr hE np_isub h
  case imul =>
    simp only [nv_di] at h
    exact nx_s hr hE np_imul h
  case ladd =>
    simp only [nv_di] at h
    exact nx_s hr hE np_ladd h
  case lsub =>
    simp only [nv_di] at h
    exact nx_s hr hE np_lsub h
  case lmul =>
    simp only [nv_di] at h
    exact nx_s hr hE np_lmul h
  case iand =>
    simp only [nv_di] at h
    exact nx_s hr hE np_iand h
  case ior =>
    simp only [nv_di] at h
    exact nx_s hr hE np_ior h
  case ixor =>
    simp only [nv_di] at h
    exact nx_s hr hE np_ixor h
  case land =>
    simp only [nv_di] at h
    exact nx_s hr hE np_land h
  case lor =>
    simp only [nv_di] at h
    exact nx_s hr hE np_lor h
  case lxor =>
    simp only [nv_di] at h
    exact nx_s hr hE np_lxor h
  case ishl =>
    simp only [nv_di] at h
    exact nx_s hr hE np_ishl h
  case ishr =>
    simp only [nv_di] at h
    exact nx_s hr hE np_ishr h
  case iushr =>
    simp only [nv_di] at h
    exact nx_s hr hE np_iushr h
  case lshl =>
    simp only [nv_di] at h
    exact nx_s hr hE np_lshl h
  case lshr =>
    simp only [nv_di] at h
    exact nx_s hr hE np_lshr h
  case lushr =>
    simp only [nv_di] at h
    exact nx_s hr hE np_lushr h
  case idiv =>
    simp only [nv_di] at h
    exact nx_s hr hE np_idiv h
  case irem =>
    simp only [nv_di] at h
    exact nx_s hr hE np_irem h
  case lcmp =>
    simp only [nv_di] at h
    exact nx_s hr hE np_lcmp h
  case ineg =>
    simp only [nv_di] at h
    exact nx_s hr hE np_ineg h
  case l2i =>
    simp only [nv_di] at h
    exact nx_s hr hE np_l2i h
  case i2l =>
    simp only [nv_di] at h
    exact nx_s hr hE np_i2l h
  case i2s =>
    simp only [nv_di] at h
    exact nx_s hr hE np_i2s h
  case i2b =>
    simp only [nv_di] at h
    exact nx_s hr hE np_i2b h
  case dup =>
    simp only [nv_di] at h
    exact nx_s hr hE np_dup h
  case pop =>
    simp only [nv_di] at h
    exact nx_s hr hE np_pop h
  case dup2 =>
    simp only [nv_di] at h
    exact nx_s hr hE np_dup2 h
  case ifCond c off =>
    simp only [nv_di] at h
    split at h
    · rename_i h0
      exact nx_j hr hE rfl (nj_if_ok h0.1 h0.2) h
    · exact f_none h
  case if_icmp c off =>
    simp only [nv_di] at h
    split at h
    · rename_i h0
      exact nx_j hr hE rfl (nj_ic_ok h0.1 h0.2) h
    · exact f_none h
  case goto off =>
    simp only [nv_di] at h
    split at h
    · rename_i h0
      exact nx_j hr hE rfl (nj_go_ok h0.1 h0.2) h
    · exact f_none h
  case ifnonnull off =>
    simp only [nv_di] at h
    split at h
    · rename_i h0
      exact nx_j hr hE rfl (nj_nu_ok fun r st => nj_nn h0.1 h0.2) h
    · exact f_none h
  case ifnull off =>
    simp only [nv_di] at h
    split at h
    · rename_i h0
      exact nx_j hr hE rfl (nj_nu_ok fun r st => nj_nl h0.1 h0.2) h
    · exact f_none h
  case getfield idx =>
    simp only [nv_di] at h
    split at h
    · exact nx_m hg hr hE rfl (nm_gf_ok nvI_ok0) h
    · exact nx_m hg hr hE rfl (nm_gf_ok nvI_ok1) h
    · exact nx_m hg hr hE rfl (nm_gf_ok nvJ_ok2) h
    · exact nx_m hg hr hE rfl (nm_gf_ok nvR_ok3) h
    · exact f_none h
  case putfield idx =>
    simp only [nv_di] at h
    split at h
    · exact nx_m hg hr hE rfl (nm_pf_ok nwI_ok0) h
    · exact nx_m hg hr hE rfl (nm_pf_ok nwZ_ok1) h
    · exact nx_m hg hr hE rfl (nm_pf_ok nwJ_ok2) h
    · exact nx_m hg hr hE rfl (nm_pf_ok nwR_ok3) h
    · exact f_none h
  case iaload =>
    simp only [nv_di] at h
    exact nx_m hg hr hE rfl nm_iaload h
  case laload =>
    simp only [nv_di] at h
    exact nx_m hg hr hE rfl nm_laload h
  case baload =>
    simp only [nv_di] at h
    exact nx_m hg hr hE rfl nm_baload h
  case iastore =>
    simp only [nv_di] at h
    exact nx_m hg hr hE rfl nm_iastore h
  case lastore =>
    simp only [nv_di] at h
    exact nx_m hg hr hE rfl nm_lastore h
  case bastore =>
    simp only [nv_di] at h
    exact nx_m hg hr hE rfl nm_bastore h
  case arraylength =>
    simp only [nv_di] at h
    exact nx_m hg hr hE rfl nm_alen h
  case new idx =>
    simp only [nv_di] at h
    exact nx_m hg hr hE rfl nm_new h
  case newarray ty =>
    simp only [nv_di] at h
    exact nx_m hg hr hE rfl nm_newarray h
  case getstatic idx =>
    simp only [nv_di] at h
    split at h
    · rename_i h0
      exact nx_m hg hr hE rfl (nm_c_ok (e := eR a) (by have := nW_35; omega) (fun ρ => cr_R a) (fun _ _ _ => rfl)) h
    · exact f_none h
  case ldc idx =>
    simp only [nv_di] at h
    split at h
    · rename_i h0
      exact nx_m hg hr hE rfl (nm_c_ok (e := eI x) (n_I_ok (ρ := fun _ => 0) x).2 (fun ρ => by have := (n_I_ok (ρ := ρ) x).1; rw [h0.2] at this; exact this) (fun _ _ _ => by simp only [ev_m]; rw [if_pos h0.1])) h
    · exact f_none h
  case ldc_w idx =>
    simp only [nv_di] at h
    split at h
    · rename_i h0
      exact nx_m hg hr hE rfl (nm_c_ok (e := eI x) (n_I_ok (ρ := fun _ => 0) x).2 (fun ρ => by have := (n_I_ok (ρ := ρ) x).1; rw [h0.2] at this; exact this) (fun _ _ _ => by simp only [ev_m]; rw [if_pos h0.1])) h
    · exact f_none h
  case ldc2_w idx =>
    simp only [nv_di] at h
    split at h
    · rename_i h0
      exact nx_m hg hr hE rfl (nm_c_ok (e := eJ x) (by have := nW_67; omega) (fun ρ => by have := cr_W (ρ := ρ) (p := (x % 18446744073709551616).toNat) (z := x) (by omega) (by omega); rw [h0.2] at this; exact this) (fun _ _ _ => by simp only [ev_m]; rw [if_pos h0.1])) h
    · exact f_none h
  case invokestatic idx =>
    simp only [nv_di] at h
    split at h
    · rename_i h0
      obtain ⟨h0, h1⟩ := h0
      subst h0
      exact nx_q hr hE rfl (by decide) (nq_s_ok h1) h
    · exact f_none h
  case invokevirtual idx =>
    simp only [nv_di] at h
    split at h
    · rename_i h0
      obtain ⟨h0, h1⟩ := h0
      subst h0
      exact nx_q hr hE rfl (by decide) (nq_v_ok h1) h
    · exact f_none h
  case invokespecial idx =>
    simp only [nv_di] at h
    split at h
    · rename_i h0
      obtain ⟨h0, h1⟩ := h0
      subst h0
      exact nx_q hr hE rfl (by decide) (nq_i_ok h1) h
    · split at h
      · rename_i h0
        subst h0
        exact nx_o hr hE h
      · exact f_none h
  case return_ =>
    simp only [nv_di] at h
    split at h
    · rename_i h0
      exact nx_r0 hr hE h0 h
    · exact f_none h
  case ireturn =>
    simp only [nv_di] at h
    split at h
    · rename_i h0
      exact nx_r1 hr hE rfl (fun _ => n_t0_4) (fun c e => nr_i1 h0 c e) h
    · split at h
      · rename_i h0
        exact nx_r1 hr hE rfl (fun c hc => by rcases n_z_ok hc with q | q <;> rw [q] <;> decide) (fun c e => nr_i2 h0 c e) h
      · exact f_none h
  case lreturn =>
    simp only [nv_di] at h
    split at h
    · rename_i h0
      exact nx_r1 hr hE rfl (fun _ => n_t1_4) (fun c e => nr_j h0 c e) h
    · exact f_none h
  case areturn =>
    simp only [nv_di] at h
    split at h
    · rename_i h0
      exact nx_r1 hr hE rfl (fun c hc => by have : c % 8 = 2 := Nat.eq_of_beq_eq_true hc; rw [this]; decide) (fun c e => nr_a h0 c e) h
    · exact f_none h
  all_goals exact f_none h
/-! the run -/
abbrev nR : Type := sB → nSt → Option (List (sB × nSt))
noncomputable def nv_row (R : Nat → Nat → Option nR) (ng : nG) (y pc : Nat) : nC × Unit := @Option.rec nR (fun _ => nC × Unit) (@Prod.rec Nat (Instr × Nat × (Nat × Nat × Nat × Nat) × Int) (fun _ => nC × Unit) (fun p q => @Bool.rec (fun _ => nC × Unit) (n_no, ()) (nv_di ng y p q.2.1 q.2.2.1.1 q.2.2.1.2.1 q.2.2.1.2.2.1 q.2.2.2 q.1) (Nat.beq p pc)) ((dt_co y).get pc)) (fun _ => (n_no, ())) (R y pc)
theorem nv_row_ok {ρ : Nat → Int} {R : Nat → Nat → Option nR} {ng : nG} {fg : eG} {y pc d L S : Nat} {F : List nF} {M : nM} {E : eSt} {Q : nK} (hg : ng_r ρ ng fg) (hE : nst ρ (d, (y, pc, L, S), F, M) E) (h : (nv_row R ng y pc).1 d L S F M Q false = true) : nQ ρ fg E Q := by
  unfold nv_row at h
  cases hR : R y pc with
  | some r => rw [hR] at h; exact f_none h
  | none =>
    rw [hR] at h
    cases hq : (dt_co y).get pc with
    | mk p q =>
      rw [hq] at h
      obtain ⟨i, n, ⟨a, b, t, pl⟩, x⟩ := q
      dsimp only at h
      cases hb : Nat.beq p pc with
      | false => rw [hb] at h; exact f_none h
      | true =>
        rw [hb] at h
        have hb := Nat.eq_of_beq_eq_true hb
        subst hb
        exact nv_di_ok hg hq hE h
noncomputable def nv_ap (Q : nK) (N : nSt) : Bool := Q N.1 N.2.1.1 N.2.1.2.1 N.2.1.2.2.1 N.2.1.2.2.2 N.2.2.1 N.2.2.2
noncomputable def nv_al (k : sB → nSt → Bool) (l : List (sB × nSt)) : Bool := @List.rec (sB × nSt) (fun _ => Bool) true (fun z _ ih => @Bool.rec (fun _ => Bool) false ih (k z.1 z.2)) l
theorem nv_al_ok {k : sB → nSt → Bool} {l : List (sB × nSt)} (h : nv_al k l = true) : ∀ z ∈ l, k z.1 z.2 = true := by
  induction l with
  | nil =>
    intro z hz
    cases hz
  | cons w l ih =>
    have h : @Bool.rec (fun _ => Bool) false (nv_al k l) (k w.1 w.2) = true := h
    cases hw : k w.1 w.2 with
    | false => rw [hw] at h; cases h
    | true =>
      rw [hw] at h
      intro z hz
      rcases List.mem_cons.mp hz with rfl | hz
      · exact hw
      · exact ih h z hz
/-- without a row's own step: by a place's rule, by the rule of all places -/
noncomputable def nv_slow (R : Nat → Nat → Option nR) (G : nR) (k : sB → nK) (B : sB) (d y pc L S : Nat) (F : List nF) (M : nM) : Bool := @Option.rec (List (sB × nSt)) (fun _ => Bool) (@Option.rec (List (sB × nSt)) (fun _ => Bool) false (fun l => nv_al (fun B' N' => nv_ap (k B') N') l) (G B (d, (y, pc, L, S), F, M))) (fun l => nv_al (fun B' N' => nv_ap (k B') N') l) (@Option.rec nR (fun _ => Option (List (sB × nSt))) none (fun r => r B (d, (y, pc, L, S), F, M)) (R y pc))
noncomputable def nv (R : Nat → Nat → Option nR) (G : nR) (ng : nG) (n : Nat) : sB → nK := @Nat.rec (fun _ => sB → nK) (fun _ _ _ _ _ _ _ _ => false) (fun _ ih B d y pc L S F M => (nv_row R ng y pc).1 d L S F M (ih B) (nv_slow R G ih B d y pc L S F M)) n
def nrl (fg : eG) (rc rs : Nat) (ρ : Nat → Int) (r : nR) : Prop := ∀ (B : sB) (N : nSt) (l : List (sB × nSt)) (E : eSt), r B N = some l → sb_in ρ B → nst ρ N E → (∀ q ∈ l, ∀ E' : eSt, sb_in ρ q.1 → nst ρ q.2 E' → ex_fine fg rc rs E') → ex_fine fg rc rs E
theorem nr_z {f : nC} {d L S : Nat} {F : List nF} {M : nM} {Q : nK} {z : Bool} (h : f d L S F M Q z = true) : z = true ∨ f d L S F M Q false = true := by
  cases z with
  | true => exact Or.inl rfl
  | false => exact Or.inr h
theorem nv_ok2 {R : Nat → Nat → Option nR} {G : nR} {ρ : Nat → Int} {ng : nG} {fg : eG} {rc rs : Nat} (hg : ng_r ρ ng fg) (hR : ∀ y pc r, R y pc = some r → nrl fg rc rs ρ r) (hG : nrl fg rc rs ρ G) : ∀ (n : Nat) (B : sB) (N : nSt) (E : eSt), nv_ap (nv R G ng n B) N = true → sb_in ρ B → nst ρ N E → ex_fine fg rc rs E := by
  intro n
  induction n with
  | zero =>
    intro B N E h
    cases h
  | succ n ih =>
    intro B N E h hB hN
    obtain ⟨d, ⟨y, pc, L, S⟩, F, M⟩ := N
    have h : (nv_row R ng y pc).1 d L S F M (nv R G ng n B) (nv_slow R G (nv R G ng n) B d y pc L S F M) = true := h
    rcases nr_z h with hs | hf
    · unfold nv_slow at hs
      have old : @Option.rec (List (sB × nSt)) (fun _ => Bool) false (fun l => nv_al (fun B' N' => nv_ap (nv R G ng n B') N') l) (G B (d, (y, pc, L, S), F, M)) = true → ex_fine fg rc rs E := by
        intro ho
        cases hl : G B (d, (y, pc, L, S), F, M) with
        | none => rw [hl] at ho; cases ho
        | some l =>
          rw [hl] at ho
          exact hG B _ l E hl hB hN (fun q hq E' h1 h2 => ih q.1 q.2 E' (nv_al_ok ho q hq) h1 h2)
      cases hr : R y pc with
      | none => rw [hr] at hs; exact old hs
      | some r =>
        rw [hr] at hs
        dsimp only at hs
        cases hl : r B (d, (y, pc, L, S), F, M) with
        | none => rw [hl] at hs; exact old hs
        | some l =>
          rw [hl] at hs
          exact hR y pc r hr B _ l E hl hB hN (fun q hq E' h1 h2 => ih q.1 q.2 E' (nv_al_ok hs q hq) h1 h2)
    · obtain ⟨E', d', y', pc', L', S', F', M', h1, h2, h3⟩ := nv_row_ok hg hN hf
      exact ex_fine_1 h1 (ih B (d', (y', pc', L', S'), F', M') E' h3 hB h2)
