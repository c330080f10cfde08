/-! WALKS BY HAND over the small machine: what is fine behind a step is fine ahead of it -/
theorem w_s {fg : eG} {rc : eQ} {d y pc n np : Nat} {z : Nat × Nat × Nat × Nat} {i : Instr} {x : Int} {lv lv' : List (Option eV)} {st st' : List eV} {F : List eFr} {μ : eM} (hr : (dt_co y).get pc = (pc, i, n, z, x)) (h : ev_s i lv st = some (lv', st')) (hp : pc + ev_len i = np) (K : ex_q fg rc (d, (y, np, lv', st'), F, μ)) : ex_q fg rc (d, (y, pc, lv, st), F, μ) := by
  subst hp
  exact ex_q_1 (xs_s hr h) K
theorem w_j {fg : eG} {rc : eQ} {d y pc n np : Nat} {z : Nat × Nat × Nat × Nat} {i : Instr} {x : Int} {lv : List (Option eV)} {st st' : List eV} {F : List eFr} {μ : eM} (hr : (dt_co y).get pc = (pc, i, n, z, x)) (hk : dt_kl i = 1) (h : ev_j i n pc st = some (np, st')) (K : ex_q fg rc (d, (y, np, lv, st'), F, μ)) : ex_q fg rc (d, (y, pc, lv, st), F, μ) := ex_q_1 (xs_j hr hk h) K
theorem h_bt {pc np : Nat} {off : Int} {b : Prop} [Decidable b] {r : List eV} (h : (pc : Int) + off = (np : Int)) (hb : b) : ev_b pc off b r = some (np, r) := by
  unfold ev_b
  rw [if_pos (by omega), if_pos hb, h]
  rfl
theorem h_bf {pc np : Nat} {off : Int} {b : Prop} [Decidable b] {r : List eV} (h : (pc : Int) + off = (np : Int)) (hb : ¬ b) : ev_b pc off b r = some (pc + 3, r) := by
  unfold ev_b
  rw [if_pos (by omega), if_neg hb]
/-- a test, whatever it says -/
theorem w_ix {fg : eG} {rc : eQ} {d y pc t1 t2 : Nat} {z : Nat × Nat × Nat × Nat} {c : Jvm.ClassFile.Cond} {off x : Int} {lv : List (Option eV)} {a b : Int} {st : List eV} {F : List eFr} {μ : eM} (hr : (dt_co y).get pc = (pc, .if_icmp c off, 3, z, x)) (h1 : (pc : Int) + off = (t1 : Int)) (h2 : pc + 3 = t2) (K1 : ex_q fg rc (d, (y, t1, lv, st), F, μ)) (K2 : ex_q fg rc (d, (y, t2, lv, st), F, μ)) : ex_q fg rc (d, (y, pc, lv, eI b :: eI a :: st), F, μ) := by
  subst h2
  have key : ∀ (p : Prop) [Decidable p], ev_ic c pc off a b st = ev_b pc off p st → ex_q fg rc (d, (y, pc, lv, eI b :: eI a :: st), F, μ) := by
    intro p _ e
    by_cases hp : p
    · exact w_j hr rfl (by show ev_ic c pc off a b st = _; rw [e]; exact h_bt h1 hp) K1
    · exact w_j hr rfl (by show ev_ic c pc off a b st = _; rw [e]; exact h_bf h1 hp) K2
  cases c
  · exact key (ev_w a = ev_w b) rfl
  · exact key (¬ ev_w a = ev_w b) rfl
  · exact key (ev_w a < ev_w b) rfl
  · exact key (ev_w b ≤ ev_w a) rfl
  · exact key (ev_w b < ev_w a) rfl
  · exact key (ev_w a ≤ ev_w b) rfl
theorem w_ne {fg : eG} {rc : eQ} {d y pc t1 t2 : Nat} {z : Nat × Nat × Nat × Nat} {off x : Int} {lv : List (Option eV)} {a b : Int} {st : List eV} {F : List eFr} {μ : eM} (hr : (dt_co y).get pc = (pc, .if_icmp .ne off, 3, z, x)) (h1 : (pc : Int) + off = (t1 : Int)) (h2 : pc + 3 = t2) (ha : ev_w a = a) (hb : ev_w b = b) (K1 : ¬ a = b → ex_q fg rc (d, (y, t1, lv, st), F, μ)) (K2 : a = b → ex_q fg rc (d, (y, t2, lv, st), F, μ)) : ex_q fg rc (d, (y, pc, lv, eI b :: eI a :: st), F, μ) := by
  subst h2
  by_cases hp : a = b
  · exact w_j hr rfl (h_bf h1 (fun q => q (by rw [ha, hb]; exact hp))) (K2 hp)
  · exact w_j hr rfl (h_bt h1 (by rw [ha, hb]; exact hp)) (K1 hp)
theorem w_eq {fg : eG} {rc : eQ} {d y pc t1 t2 : Nat} {z : Nat × Nat × Nat × Nat} {off x : Int} {lv : List (Option eV)} {a b : Int} {st : List eV} {F : List eFr} {μ : eM} (hr : (dt_co y).get pc = (pc, .if_icmp .eq off, 3, z, x)) (h1 : (pc : Int) + off = (t1 : Int)) (h2 : pc + 3 = t2) (ha : ev_w a = a) (hb : ev_w b = b) (K1 : a = b → ex_q fg rc (d, (y, t1, lv, st), F, μ)) (K2 : ¬ a = b → ex_q fg rc (d, (y, t2, lv, st), F, μ)) : ex_q fg rc (d, (y, pc, lv, eI b :: eI a :: st), F, μ) := by
  subst h2
  by_cases hp : a = b
  · exact w_j hr rfl (h_bt h1 (by rw [ha, hb]; exact hp)) (K1 hp)
  · exact w_j hr rfl (h_bf h1 (by rw [ha, hb]; exact hp)) (K2 hp)
theorem w_ge {fg : eG} {rc : eQ} {d y pc t1 t2 : Nat} {z : Nat × Nat × Nat × Nat} {off x : Int} {lv : List (Option eV)} {a b : Int} {st : List eV} {F : List eFr} {μ : eM} (hr : (dt_co y).get pc = (pc, .if_icmp .ge off, 3, z, x)) (h1 : (pc : Int) + off = (t1 : Int)) (h2 : pc + 3 = t2) (ha : ev_w a = a) (hb : ev_w b = b) (K1 : b ≤ a → ex_q fg rc (d, (y, t1, lv, st), F, μ)) (K2 : a < b → ex_q fg rc (d, (y, t2, lv, st), F, μ)) : ex_q fg rc (d, (y, pc, lv, eI b :: eI a :: st), F, μ) := by
  subst h2
  by_cases hp : b ≤ a
  · exact w_j hr rfl (h_bt h1 (by rw [ha, hb]; exact hp)) (K1 hp)
  · exact w_j hr rfl (h_bf h1 (by rw [ha, hb]; exact hp)) (K2 (by omega))
/-- against 0 -/
theorem w_ge0 {fg : eG} {rc : eQ} {d y pc t1 t2 : Nat} {z : Nat × Nat × Nat × Nat} {off x : Int} {lv : List (Option eV)} {a : Int} {st : List eV} {F : List eFr} {μ : eM} (hr : (dt_co y).get pc = (pc, .ifCond .ge off, 3, z, x)) (h1 : (pc : Int) + off = (t1 : Int)) (h2 : pc + 3 = t2) (ha : ev_w a = a) (K1 : 0 ≤ a → ex_q fg rc (d, (y, t1, lv, st), F, μ)) (K2 : a < 0 → ex_q fg rc (d, (y, t2, lv, st), F, μ)) : ex_q fg rc (d, (y, pc, lv, eI a :: st), F, μ) := by
  subst h2
  by_cases hp : 0 ≤ a
  · exact w_j hr rfl (h_bt h1 (by rw [ha]; exact hp)) (K1 hp)
  · exact w_j hr rfl (h_bf h1 (by rw [ha]; exact hp)) (K2 (by omega))
theorem w_i0 {fg : eG} {rc : eQ} {d y pc t1 t2 : Nat} {z : Nat × Nat × Nat × Nat} {c : Jvm.ClassFile.Cond} {off x : Int} {lv : List (Option eV)} {a : Int} {st : List eV} {F : List eFr} {μ : eM} (hr : (dt_co y).get pc = (pc, .ifCond c off, 3, z, x)) (h1 : (pc : Int) + off = (t1 : Int)) (h2 : pc + 3 = t2) (K1 : ex_q fg rc (d, (y, t1, lv, st), F, μ)) (K2 : ex_q fg rc (d, (y, t2, lv, st), F, μ)) : ex_q fg rc (d, (y, pc, lv, eI a :: st), F, μ) := by
  subst h2
  have key : ∀ (p : Prop) [Decidable p], ev_if c pc off a st = ev_b pc off p st → ex_q fg rc (d, (y, pc, lv, eI a :: st), F, μ) := by
    intro p _ e
    by_cases hp : p
    · exact w_j hr rfl (by show ev_if c pc off a st = _; rw [e]; exact h_bt h1 hp) K1
    · exact w_j hr rfl (by show ev_if c pc off a st = _; rw [e]; exact h_bf h1 hp) K2
  cases c
  · exact key (ev_w a = 0) rfl
  · exact key (¬ ev_w a = 0) rfl
  · exact key (ev_w a < 0) rfl
  · exact key (0 ≤ ev_w a) rfl
  · exact key (0 < ev_w a) rfl
  · exact key (ev_w a ≤ 0) rfl
theorem w_go {fg : eG} {rc : eQ} {d y pc t1 : Nat} {z : Nat × Nat × Nat × Nat} {off x : Int} {lv : List (Option eV)} {st : List eV} {F : List eFr} {μ : eM} (hr : (dt_co y).get pc = (pc, .goto off, 3, z, x)) (h1 : (pc : Int) + off = (t1 : Int)) (K1 : ex_q fg rc (d, (y, t1, lv, st), F, μ)) : ex_q fg rc (d, (y, pc, lv, st), F, μ) := w_j hr rfl (h_bt h1 True.intro) K1
/-- memory -/
theorem w_gf {fg : eG} {rc : eQ} {d y pc np r a b t pl idx : Nat} {x : Int} {v : eV} {lv : List (Option eV)} {st : List eV} {F : List eFr} {μ : eM} (hr : (dt_co y).get pc = (pc, .getfield idx, 3, (a, b, t, pl), x)) (hp : pc + 3 = np) (hk : ev_kd μ r = some a) (hv : ev_pv t (μ.1 r b) = v) (K : ex_q fg rc (d, (y, np, lv, v :: st), F, μ)) : ex_q fg rc (d, (y, pc, lv, eR r :: st), F, μ) := by
  subst hp
  subst hv
  exact ex_q_1 (xs_m hr rfl (by show (if ev_kd μ r = some a then some (ev_pv t (μ.1 r b) :: st, μ) else none) = _; rw [if_pos hk])) K
theorem w_al {fg : eG} {rc : eQ} {d y pc np r a b t pl : Nat} {x i v : Int} {lv : List (Option eV)} {st : List eV} {F : List eFr} {μ : eM} (hr : (dt_co y).get pc = (pc, .iaload, 1, (a, b, t, pl), x)) (hp : pc + 1 = np) (hv : ev_al fg μ 100 r i = some v) (K : ex_q fg rc (d, (y, np, lv, eI v :: st), F, μ)) : ex_q fg rc (d, (y, pc, lv, eI i :: eR r :: st), F, μ) := by
  subst hp
  refine ex_q_1 (xs_m (st' := eI v :: st) (μ' := μ) hr rfl ?_) K
  simp only [ev_m, hv]
theorem w_as {fg : eG} {rc : eQ} {d y pc np r a b t pl : Nat} {x i v : Int} {lv : List (Option eV)} {st : List eV} {F : List eFr} {μ μ' : eM} (hr : (dt_co y).get pc = (pc, .iastore, 1, (a, b, t, pl), x)) (hp : pc + 1 = np) (hv : ev_as μ 100 r i v = some μ') (K : ex_q fg rc (d, (y, np, lv, st), F, μ')) : ex_q fg rc (d, (y, pc, lv, eI v :: eI i :: eR r :: st), F, μ) := by
  subst hp
  refine ex_q_1 (xs_m (st' := st) (μ' := μ') hr rfl ?_) K
  simp only [ev_m, hv]
/-- a row of ints -/
def h_ar (μ : eM) (q n : Nat) : Prop := 64 ≤ q ∧ μ.2.1[q - 64]? = some (100, n) ∧ n < 1000000
theorem h_al {fg : eG} {μ : eM} {q n k : Nat} {i : Int} (h : h_ar μ q n) (hi : i = (k : Int)) (hk : k < n) : ev_al fg μ 100 q i = some (μ.1 q k) := by
  obtain ⟨h1, h2, h3⟩ := h
  have hw : ev_w i = i := ev_w_in (by omega) (by omega)
  unfold ev_al
  rw [if_neg (by omega), h2]
  dsimp only
  rw [hw, if_pos ⟨rfl, by omega, by omega⟩, hi]
  rfl
theorem h_as {μ : eM} {q n k : Nat} {i x : Int} (h : h_ar μ q n) (hi : i = (k : Int)) (hk : k < n) : ev_as μ 100 q i x = some (ev_up μ.1 q k x, μ.2) := by
  obtain ⟨h1, h2, h3⟩ := h
  have hw : ev_w i = i := ev_w_in (by omega) (by omega)
  unfold ev_as
  rw [if_neg (by omega), h2]
  dsimp only
  rw [hw, if_pos ⟨rfl, by omega, by omega⟩, hi]
  rfl
theorem h_up_ne {M : Nat → Nat → Int} {r j q : Nat} {x : Int} (h : q ≠ r) : ev_up M r j x q = M q := by
  unfold ev_up ev_ur
  rw [if_neg h]
theorem h_up_eq {M : Nat → Nat → Int} {r j k : Nat} {x : Int} : ev_up M r j x r k = if k = j then x else M r k := by
  unfold ev_up ev_ur ev_u1
  rw [if_pos rfl]
/-- calls and answers -/
theorem w_cv {fg : eG} {rc : eQ} {d y pc np r b t pl idx : Nat} {x : Int} {as : List eV} {lv lv' : List (Option eV)} {st rest : List eV} {F : List eFr} {μ : eM} (hr : (dt_co y).get pc = (pc, .invokevirtual idx, 3, (0, b, t, pl), x)) (hp : pc + 3 = np) (h1 : st.drop t = eR r :: rest) (h2 : t ≤ st.length) (h3 : Nat.ble (rest.map ev_cat).sum 8 = true) (h4 : (st.take t).reverse = as) (h5 : Nat.ble (ev_sl1 (eR r :: as)).length (dt_mx b) = true) (hk : ev_kd μ r = some (dt_pl b).2.2.2.2.2.2.2) (he : ev_en (dt_mx b) (eR r :: as) = lv') (K : ex_q fg rc (d, (b, 0, lv', []), (y, np, lv, rest) :: F, μ)) : ex_q fg rc (d + 1, (y, pc, lv, st), F, μ) := by
  subst hp
  subst he
  subst h4
  refine ex_q_1 (xs_q (as := eR r :: (st.take t).reverse) (rs := rest) hr rfl (by decide) (Nat.succ_pos d) ?_) K
  unfold ev_cl2
  rw [if_pos h2]
  dsimp only
  rw [h1]
  dsimp only
  rw [if_pos ⟨rfl, Nat.ble_eq.mp h3, Nat.ble_eq.mp h5, hk⟩]
theorem w_cs {fg : eG} {rc : eQ} {d y pc np b t pl idx : Nat} {x : Int} {as : List eV} {lv lv' : List (Option eV)} {st rest : List eV} {F : List eFr} {μ : eM} (hr : (dt_co y).get pc = (pc, .invokestatic idx, 3, (2, b, t, pl), x)) (hp : pc + 3 = np) (h1 : st.drop t = rest) (h2 : t ≤ st.length) (h3 : Nat.ble (rest.map ev_cat).sum 8 = true) (h4 : (st.take t).reverse = as) (h5 : Nat.ble (ev_sl1 as).length (dt_mx b) = true) (he : ev_en (dt_mx b) as = lv') (K : ex_q fg rc (d, (b, 0, lv', []), (y, np, lv, rest) :: F, μ)) : ex_q fg rc (d + 1, (y, pc, lv, st), F, μ) := by
  subst hp
  subst he
  subst h4
  subst h1
  refine ex_q_1 (xs_q (as := (st.take t).reverse) (rs := st.drop t) hr rfl (by decide) (Nat.succ_pos d) ?_) K
  unfold ev_cl2
  rw [if_pos h2]
  dsimp only
  rw [if_pos ⟨rfl, Nat.ble_eq.mp h3, Nat.ble_eq.mp h5⟩]
theorem w_rt {fg : eG} {rc : eQ} {d y pc n : Nat} {z : Nat × Nat × Nat × Nat} {i : Instr} {x : Int} {lv : List (Option eV)} {st : List eV} {r : Option eV} {f : eFr} {F : List eFr} {μ : eM} (hr : (dt_co y).get pc = (pc, i, n, z, x)) (hk : dt_kl i = 3) (h : ev_rt y i st = some r) (K : ex_q fg rc (d + 1, (f.1, f.2.1, f.2.2.1, r.toList ++ f.2.2.2), F, μ)) : ex_q fg rc (d, (y, pc, lv, st), f :: F, μ) := by
  refine ex_q_1 (E' := (d + 1, (f.1, f.2.1, f.2.2.1, r.toList ++ f.2.2.2), F, μ)) ?_ K
  unfold ex_1
  dsimp only
  rw [xs_rt hr hk h]
