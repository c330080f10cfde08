/-! WALKS WITH INTS THAT ARE NOT KNOWN: one row each -/
/-! the same rows under names without a mark: a round reads a mark slowly -/
theorem w_t {fg : eG} {rc : eQ} {d y pc n np : Nat} {z : Nat × Nat × Nat × Nat} {i : Instr} {x : Int} {lv l2 : List (Option eV)} {st s2 : List eV} {F : List eFr} {μ : eM} (hr : (dt_co y).get pc = (pc, i, n, z, x)) (h : ev_s i lv st = some (l2, s2)) (hp : pc + ev_len i = np) (K : ex_q fg rc (d, (y, np, l2, s2), F, μ)) : ex_q fg rc (d, (y, pc, lv, st), F, μ) := w_s hr h hp K
theorem w_cw {fg : eG} {rc : eQ} {d y pc np r b t pl idx : Nat} {x : Int} {as : List eV} {lv l2 : List (Option eV)} {st rest : List eV} {F : List eFr} {μ : eM} (hr : (dt_co y).get pc = (pc, .invokevirtual idx, 3, (0, b, t, pl), x)) (hp : pc + 3 = np) (h1 : st.drop t = eR r :: rest) (h2 : t ≤ st.length) (h3 : Nat.ble (rest.map ev_cat).sum 8 = true) (h4 : (st.take t).reverse = as) (h5 : Nat.ble (ev_sl1 (eR r :: as)).length (dt_mx b) = true) (hk : ev_kd μ r = some (dt_pl b).2.2.2.2.2.2.2) (he : ev_en (dt_mx b) (eR r :: as) = l2) (K : ex_q fg rc (d, (b, 0, l2, []), (y, np, lv, rest) :: F, μ)) : ex_q fg rc (d + 1, (y, pc, lv, st), F, μ) := w_cv hr hp h1 h2 h3 h4 h5 hk he K
theorem w_cu {fg : eG} {rc : eQ} {d y pc np b t pl idx : Nat} {x : Int} {as : List eV} {lv l2 : List (Option eV)} {st rest : List eV} {F : List eFr} {μ : eM} (hr : (dt_co y).get pc = (pc, .invokestatic idx, 3, (2, b, t, pl), x)) (hp : pc + 3 = np) (h1 : st.drop t = rest) (h2 : t ≤ st.length) (h3 : Nat.ble (rest.map ev_cat).sum 8 = true) (h4 : (st.take t).reverse = as) (h5 : Nat.ble (ev_sl1 as).length (dt_mx b) = true) (he : ev_en (dt_mx b) as = l2) (K : ex_q fg rc (d, (b, 0, l2, []), (y, np, lv, rest) :: F, μ)) : ex_q fg rc (d + 1, (y, pc, lv, st), F, μ) := w_cs hr hp h1 h2 h3 h4 h5 he K
theorem b_ladd {lv : List (Option eV)} {st : List eV} {a b v : Int} (h : ev_W (a + b) = v) : ev_s .ladd lv (eJ b :: eJ a :: st) = some (lv, eJ v :: st) := by
  subst h
  rfl
theorem b_lsub {lv : List (Option eV)} {st : List eV} {a b v : Int} (h : ev_W (a - b) = v) : ev_s .lsub lv (eJ b :: eJ a :: st) = some (lv, eJ v :: st) := by
  subst h
  rfl
theorem b_lmul {lv : List (Option eV)} {st : List eV} {a b v : Int} (h : ev_W (a * b) = v) : ev_s .lmul lv (eJ b :: eJ a :: st) = some (lv, eJ v :: st) := by
  subst h
  rfl
theorem b_iadd {lv : List (Option eV)} {st : List eV} {a b v : Int} (h : ev_w (a + b) = v) : ev_s .iadd lv (eI b :: eI a :: st) = some (lv, eI v :: st) := by
  subst h
  rfl
theorem b_isub {lv : List (Option eV)} {st : List eV} {a b v : Int} (h : ev_w (a - b) = v) : ev_s .isub lv (eI b :: eI a :: st) = some (lv, eI v :: st) := by
  subst h
  rfl
theorem b_imul {lv : List (Option eV)} {st : List eV} {a b v : Int} (h : ev_w (a * b) = v) : ev_s .imul lv (eI b :: eI a :: st) = some (lv, eI v :: st) := by
  subst h
  rfl
theorem b_i2l {lv : List (Option eV)} {st : List eV} {a v : Int} (h : ev_w a = v) : ev_s .i2l lv (eI a :: st) = some (lv, eJ v :: st) := by
  subst h
  rfl
theorem b_ineg {lv : List (Option eV)} {st : List eV} {a v : Int} (h : ev_w (-a) = v) : ev_s .ineg lv (eI a :: st) = some (lv, eI v :: st) := by
  subst h
  rfl
theorem b_iinc {lv lv2 : List (Option eV)} {st : List eV} {k : Nat} {n a v : Int} (hl : lv[k]? = some (some (eI a))) (h : ev_w (a + n) = v) (hs : ev_st1 lv k (eI v) = lv2) : ev_s (.iinc k n) lv st = some (lv2, st) := by
  subst h
  subst hs
  show ev_inc lv k n st = _
  unfold ev_inc
  rw [hl]
theorem b_ieq {fg : eG} {rc : eQ} {d y pc t1 t2 : Nat} {z : Nat × Nat × Nat × Nat} {off x : Int} {lv : List (Option eV)} {st : List eV} {F : List eFr} {μ : eM} {a : Int} (hr : (dt_co y).get pc = (pc, .ifCond .eq off, 3, z, x)) (h1 : (pc : Int) + off = (t1 : Int)) (h2 : pc + 3 = t2) (ha : ev_w a = a) (K1 : a = 0 → ex_q fg rc (d, (y, t1, lv, st), F, μ)) (K2 : ¬ a = 0 → ex_q fg rc (d, (y, t2, lv, st), F, μ)) : ex_q fg rc (d, (y, pc, lv, eI a :: st), F, μ) := by
  subst h2
  by_cases hp : a = 0
  · exact w_j hr rfl (h_bt h1 (by rw [ha]; exact hp)) (K1 hp)
  · exact w_j hr rfl (h_bf h1 (by rw [ha]; exact hp)) (K2 (by omega))
theorem b_ceq {fg : eG} {rc : eQ} {d y pc t1 t2 : Nat} {z : Nat × Nat × Nat × Nat} {off x : Int} {lv : List (Option eV)} {st : List eV} {F : List eFr} {μ : eM} {a b : Int} (hr : (dt_co y).get pc = (pc, .if_icmp .eq off, 3, z, x)) (h1 : (pc : Int) + off = (t1 : Int)) (h2 : pc + 3 = t2) (ha : ev_w a = a) (hb : ev_w b = b) (K1 : a = b → ex_q fg rc (d, (y, t1, lv, st), F, μ)) (K2 : ¬ a = b → ex_q fg rc (d, (y, t2, lv, st), F, μ)) : ex_q fg rc (d, (y, pc, lv, eI b :: eI a :: st), F, μ) := by
  subst h2
  by_cases hp : a = b
  · exact w_j hr rfl (h_bt h1 (by rw [ha, hb]; exact hp)) (K1 hp)
  · exact w_j hr rfl (h_bf h1 (by rw [ha, hb]; exact hp)) (K2 (by omega))
theorem b_leq {fg : eG} {rc : eQ} {d y pc t1 t2 : Nat} {z : Nat × Nat × Nat × Nat} {off x : Int} {lv : List (Option eV)} {st : List eV} {F : List eFr} {μ : eM} {n1 : Nat} {z1 : Nat × Nat × Nat × Nat} {x1 : Int} {a b : Int} (hq : (dt_co y).get pc = (pc, .lcmp, n1, z1, x1)) (hr : (dt_co y).get (pc + 1) = (pc + 1, .ifCond .eq off, 3, z, x)) (h1 : ((pc + 1 : Nat) : Int) + off = (t1 : Int)) (h2 : pc + 4 = t2) (ha : ev_W a = a) (hb : ev_W b = b) (K1 : a = b → ex_q fg rc (d, (y, t1, lv, st), F, μ)) (K2 : ¬ a = b → ex_q fg rc (d, (y, t2, lv, st), F, μ)) : ex_q fg rc (d, (y, pc, lv, eJ b :: eJ a :: st), F, μ) := by
  subst h2
  refine w_s (np := pc + 1) (lv' := lv) (st' := eI (if a > b then 1 else if a = b then 0 else -1) :: st) hq (by show some (lv, eI (if ev_W a > ev_W b then 1 else if ev_W a = ev_W b then 0 else -1) :: st) = _; rw [ha, hb]) rfl ?_
  have hw : ev_w (if a > b then (1 : Int) else if a = b then 0 else -1) = (if a > b then 1 else if a = b then 0 else -1) := by
    split
    · rfl
    · split <;> rfl
  refine b_ieq hr h1 rfl hw (fun q => K1 ?_) (fun q => K2 ?_)
  · split at q
    · omega
    · split at q <;> omega
  · split at q
    · omega
    · split at q <;> omega
theorem b_ine {fg : eG} {rc : eQ} {d y pc t1 t2 : Nat} {z : Nat × Nat × Nat × Nat} {off x : Int} {lv : List (Option eV)} {st : List eV} {F : List eFr} {μ : eM} {a : Int} (hr : (dt_co y).get pc = (pc, .ifCond .ne off, 3, z, x)) (h1 : (pc : Int) + off = (t1 : Int)) (h2 : pc + 3 = t2) (ha : ev_w a = a) (K1 : ¬ a = 0 → ex_q fg rc (d, (y, t1, lv, st), F, μ)) (K2 : a = 0 → ex_q fg rc (d, (y, t2, lv, st), F, μ)) : ex_q fg rc (d, (y, pc, lv, eI a :: st), F, μ) := by
  subst h2
  by_cases hp : ¬ a = 0
  · exact w_j hr rfl (h_bt h1 (by rw [ha]; exact hp)) (K1 hp)
  · exact w_j hr rfl (h_bf h1 (by rw [ha]; exact hp)) (K2 (by omega))
theorem b_cne {fg : eG} {rc : eQ} {d y pc t1 t2 : Nat} {z : Nat × Nat × Nat × Nat} {off x : Int} {lv : List (Option eV)} {st : List eV} {F : List eFr} {μ : eM} {a b : Int} (hr : (dt_co y).get pc = (pc, .if_icmp .ne off, 3, z, x)) (h1 : (pc : Int) + off = (t1 : Int)) (h2 : pc + 3 = t2) (ha : ev_w a = a) (hb : ev_w b = b) (K1 : ¬ a = b → ex_q fg rc (d, (y, t1, lv, st), F, μ)) (K2 : a = b → ex_q fg rc (d, (y, t2, lv, st), F, μ)) : ex_q fg rc (d, (y, pc, lv, eI b :: eI a :: st), F, μ) := by
  subst h2
  by_cases hp : ¬ a = b
  · exact w_j hr rfl (h_bt h1 (by rw [ha, hb]; exact hp)) (K1 hp)
  · exact w_j hr rfl (h_bf h1 (by rw [ha, hb]; exact hp)) (K2 (by omega))
theorem b_lne {fg : eG} {rc : eQ} {d y pc t1 t2 : Nat} {z : Nat × Nat × Nat × Nat} {off x : Int} {lv : List (Option eV)} {st : List eV} {F : List eFr} {μ : eM} {n1 : Nat} {z1 : Nat × Nat × Nat × Nat} {x1 : Int} {a b : Int} (hq : (dt_co y).get pc = (pc, .lcmp, n1, z1, x1)) (hr : (dt_co y).get (pc + 1) = (pc + 1, .ifCond .ne off, 3, z, x)) (h1 : ((pc + 1 : Nat) : Int) + off = (t1 : Int)) (h2 : pc + 4 = t2) (ha : ev_W a = a) (hb : ev_W b = b) (K1 : ¬ a = b → ex_q fg rc (d, (y, t1, lv, st), F, μ)) (K2 : a = b → ex_q fg rc (d, (y, t2, lv, st), F, μ)) : ex_q fg rc (d, (y, pc, lv, eJ b :: eJ a :: st), F, μ) := by
  subst h2
  refine w_s (np := pc + 1) (lv' := lv) (st' := eI (if a > b then 1 else if a = b then 0 else -1) :: st) hq (by show some (lv, eI (if ev_W a > ev_W b then 1 else if ev_W a = ev_W b then 0 else -1) :: st) = _; rw [ha, hb]) rfl ?_
  have hw : ev_w (if a > b then (1 : Int) else if a = b then 0 else -1) = (if a > b then 1 else if a = b then 0 else -1) := by
    split
    · rfl
    · split <;> rfl
  refine b_ine hr h1 rfl hw (fun q => K1 ?_) (fun q => K2 ?_)
  · split at q
    · omega
    · split at q <;> omega
  · split at q
    · omega
    · split at q <;> omega
theorem b_ilt {fg : eG} {rc : eQ} {d y pc t1 t2 : Nat} {z : Nat × Nat × Nat × Nat} {off x : Int} {lv : List (Option eV)} {st : List eV} {F : List eFr} {μ : eM} {a : Int} (hr : (dt_co y).get pc = (pc, .ifCond .lt off, 3, z, x)) (h1 : (pc : Int) + off = (t1 : Int)) (h2 : pc + 3 = t2) (ha : ev_w a = a) (K1 : a < 0 → ex_q fg rc (d, (y, t1, lv, st), F, μ)) (K2 : 0 ≤ a → ex_q fg rc (d, (y, t2, lv, st), F, μ)) : ex_q fg rc (d, (y, pc, lv, eI a :: st), F, μ) := by
  subst h2
  by_cases hp : a < 0
  · exact w_j hr rfl (h_bt h1 (by rw [ha]; exact hp)) (K1 hp)
  · exact w_j hr rfl (h_bf h1 (by rw [ha]; exact hp)) (K2 (by omega))
theorem b_clt {fg : eG} {rc : eQ} {d y pc t1 t2 : Nat} {z : Nat × Nat × Nat × Nat} {off x : Int} {lv : List (Option eV)} {st : List eV} {F : List eFr} {μ : eM} {a b : Int} (hr : (dt_co y).get pc = (pc, .if_icmp .lt off, 3, z, x)) (h1 : (pc : Int) + off = (t1 : Int)) (h2 : pc + 3 = t2) (ha : ev_w a = a) (hb : ev_w b = b) (K1 : a < b → ex_q fg rc (d, (y, t1, lv, st), F, μ)) (K2 : b ≤ a → ex_q fg rc (d, (y, t2, lv, st), F, μ)) : ex_q fg rc (d, (y, pc, lv, eI b :: eI a :: st), F, μ) := by
  subst h2
  by_cases hp : a < b
  · exact w_j hr rfl (h_bt h1 (by rw [ha, hb]; exact hp)) (K1 hp)
  · exact w_j hr rfl (h_bf h1 (by rw [ha, hb]; exact hp)) (K2 (by omega))
theorem b_llt {fg : eG} {rc : eQ} {d y pc t1 t2 : Nat} {z : Nat × Nat × Nat × Nat} {off x : Int} {lv : List (Option eV)} {st : List eV} {F : List eFr} {μ : eM} {n1 : Nat} {z1 : Nat × Nat × Nat × Nat} {x1 : Int} {a b : Int} (hq : (dt_co y).get pc = (pc, .lcmp, n1, z1, x1)) (hr : (dt_co y).get (pc + 1) = (pc + 1, .ifCond .lt off, 3, z, x)) (h1 : ((pc + 1 : Nat) : Int) + off = (t1 : Int)) (h2 : pc + 4 = t2) (ha : ev_W a = a) (hb : ev_W b = b) (K1 : a < b → ex_q fg rc (d, (y, t1, lv, st), F, μ)) (K2 : b ≤ a → ex_q fg rc (d, (y, t2, lv, st), F, μ)) : ex_q fg rc (d, (y, pc, lv, eJ b :: eJ a :: st), F, μ) := by
  subst h2
  refine w_s (np := pc + 1) (lv' := lv) (st' := eI (if a > b then 1 else if a = b then 0 else -1) :: st) hq (by show some (lv, eI (if ev_W a > ev_W b then 1 else if ev_W a = ev_W b then 0 else -1) :: st) = _; rw [ha, hb]) rfl ?_
  have hw : ev_w (if a > b then (1 : Int) else if a = b then 0 else -1) = (if a > b then 1 else if a = b then 0 else -1) := by
    split
    · rfl
    · split <;> rfl
  refine b_ilt hr h1 rfl hw (fun q => K1 ?_) (fun q => K2 ?_)
  · split at q
    · omega
    · split at q <;> omega
  · split at q
    · omega
    · split at q <;> omega
theorem b_ige {fg : eG} {rc : eQ} {d y pc t1 t2 : Nat} {z : Nat × Nat × Nat × Nat} {off x : Int} {lv : List (Option eV)} {st : List eV} {F : List eFr} {μ : eM} {a : Int} (hr : (dt_co y).get pc = (pc, .ifCond .ge off, 3, z, x)) (h1 : (pc : Int) + off = (t1 : Int)) (h2 : pc + 3 = t2) (ha : ev_w a = a) (K1 : 0 ≤ a → ex_q fg rc (d, (y, t1, lv, st), F, μ)) (K2 : a < 0 → ex_q fg rc (d, (y, t2, lv, st), F, μ)) : ex_q fg rc (d, (y, pc, lv, eI a :: st), F, μ) := by
  subst h2
  by_cases hp : 0 ≤ a
  · exact w_j hr rfl (h_bt h1 (by rw [ha]; exact hp)) (K1 hp)
  · exact w_j hr rfl (h_bf h1 (by rw [ha]; exact hp)) (K2 (by omega))
theorem b_cge {fg : eG} {rc : eQ} {d y pc t1 t2 : Nat} {z : Nat × Nat × Nat × Nat} {off x : Int} {lv : List (Option eV)} {st : List eV} {F : List eFr} {μ : eM} {a b : Int} (hr : (dt_co y).get pc = (pc, .if_icmp .ge off, 3, z, x)) (h1 : (pc : Int) + off = (t1 : Int)) (h2 : pc + 3 = t2) (ha : ev_w a = a) (hb : ev_w b = b) (K1 : b ≤ a → ex_q fg rc (d, (y, t1, lv, st), F, μ)) (K2 : a < b → ex_q fg rc (d, (y, t2, lv, st), F, μ)) : ex_q fg rc (d, (y, pc, lv, eI b :: eI a :: st), F, μ) := by
  subst h2
  by_cases hp : b ≤ a
  · exact w_j hr rfl (h_bt h1 (by rw [ha, hb]; exact hp)) (K1 hp)
  · exact w_j hr rfl (h_bf h1 (by rw [ha, hb]; exact hp)) (K2 (by omega))
theorem b_lge {fg : eG} {rc : eQ} {d y pc t1 t2 : Nat} {z : Nat × Nat × Nat × Nat} {off x : Int} {lv : List (Option eV)} {st : List eV} {F : List eFr} {μ : eM} {n1 : Nat} {z1 : Nat × Nat × Nat × Nat} {x1 : Int} {a b : Int} (hq : (dt_co y).get pc = (pc, .lcmp, n1, z1, x1)) (hr : (dt_co y).get (pc + 1) = (pc + 1, .ifCond .ge off, 3, z, x)) (h1 : ((pc + 1 : Nat) : Int) + off = (t1 : Int)) (h2 : pc + 4 = t2) (ha : ev_W a = a) (hb : ev_W b = b) (K1 : b ≤ a → ex_q fg rc (d, (y, t1, lv, st), F, μ)) (K2 : a < b → ex_q fg rc (d, (y, t2, lv, st), F, μ)) : ex_q fg rc (d, (y, pc, lv, eJ b :: eJ a :: st), F, μ) := by
  subst h2
  refine w_s (np := pc + 1) (lv' := lv) (st' := eI (if a > b then 1 else if a = b then 0 else -1) :: st) hq (by show some (lv, eI (if ev_W a > ev_W b then 1 else if ev_W a = ev_W b then 0 else -1) :: st) = _; rw [ha, hb]) rfl ?_
  have hw : ev_w (if a > b then (1 : Int) else if a = b then 0 else -1) = (if a > b then 1 else if a = b then 0 else -1) := by
    split
    · rfl
    · split <;> rfl
  refine b_ige hr h1 rfl hw (fun q => K1 ?_) (fun q => K2 ?_)
  · split at q
    · omega
    · split at q <;> omega
  · split at q
    · omega
    · split at q <;> omega
theorem b_igt {fg : eG} {rc : eQ} {d y pc t1 t2 : Nat} {z : Nat × Nat × Nat × Nat} {off x : Int} {lv : List (Option eV)} {st : List eV} {F : List eFr} {μ : eM} {a : Int} (hr : (dt_co y).get pc = (pc, .ifCond .gt off, 3, z, x)) (h1 : (pc : Int) + off = (t1 : Int)) (h2 : pc + 3 = t2) (ha : ev_w a = a) (K1 : 0 < a → ex_q fg rc (d, (y, t1, lv, st), F, μ)) (K2 : a ≤ 0 → ex_q fg rc (d, (y, t2, lv, st), F, μ)) : ex_q fg rc (d, (y, pc, lv, eI a :: st), F, μ) := by
  subst h2
  by_cases hp : 0 < a
  · exact w_j hr rfl (h_bt h1 (by rw [ha]; exact hp)) (K1 hp)
  · exact w_j hr rfl (h_bf h1 (by rw [ha]; exact hp)) (K2 (by omega))
theorem b_cgt {fg : eG} {rc : eQ} {d y pc t1 t2 : Nat} {z : Nat × Nat × Nat × Nat} {off x : Int} {lv : List (Option eV)} {st : List eV} {F : List eFr} {μ : eM} {a b : Int} (hr : (dt_co y).get pc = (pc, .if_icmp .gt off, 3, z, x)) (h1 : (pc : Int) + off = (t1 : Int)) (h2 : pc + 3 = t2) (ha : ev_w a = a) (hb : ev_w b = b) (K1 : b < a → ex_q fg rc (d, (y, t1, lv, st), F, μ)) (K2 : a ≤ b → ex_q fg rc (d, (y, t2, lv, st), F, μ)) : ex_q fg rc (d, (y, pc, lv, eI b :: eI a :: st), F, μ) := by
  subst h2
  by_cases hp : b < a
  · exact w_j hr rfl (h_bt h1 (by rw [ha, hb]; exact hp)) (K1 hp)
  · exact w_j hr rfl (h_bf h1 (by rw [ha, hb]; exact hp)) (K2 (by omega))
theorem b_lgt {fg : eG} {rc : eQ} {d y pc t1 t2 : Nat} {z : Nat × Nat × Nat × Nat} {off x : Int} {lv : List (Option eV)} {st : List eV} {F : List eFr} {μ : eM} {n1 : Nat} {z1 : Nat × Nat × Nat × Nat} {x1 : Int} {a b : Int} (hq : (dt_co y).get pc = (pc, .lcmp, n1, z1, x1)) (hr : (dt_co y).get (pc + 1) = (pc + 1, .ifCond .gt off, 3, z, x)) (h1 : ((pc + 1 : Nat) : Int) + off = (t1 : Int)) (h2 : pc + 4 = t2) (ha : ev_W a = a) (hb : ev_W b = b) (K1 : b < a → ex_q fg rc (d, (y, t1, lv, st), F, μ)) (K2 : a ≤ b → ex_q fg rc (d, (y, t2, lv, st), F, μ)) : ex_q fg rc (d, (y, pc, lv, eJ b :: eJ a :: st), F, μ) := by
  subst h2
  refine w_s (np := pc + 1) (lv' := lv) (st' := eI (if a > b then 1 else if a = b then 0 else -1) :: st) hq (by show some (lv, eI (if ev_W a > ev_W b then 1 else if ev_W a = ev_W b then 0 else -1) :: st) = _; rw [ha, hb]) rfl ?_
  have hw : ev_w (if a > b then (1 : Int) else if a = b then 0 else -1) = (if a > b then 1 else if a = b then 0 else -1) := by
    split
    · rfl
    · split <;> rfl
  refine b_igt hr h1 rfl hw (fun q => K1 ?_) (fun q => K2 ?_)
  · split at q
    · omega
    · split at q <;> omega
  · split at q
    · omega
    · split at q <;> omega
theorem b_ile {fg : eG} {rc : eQ} {d y pc t1 t2 : Nat} {z : Nat × Nat × Nat × Nat} {off x : Int} {lv : List (Option eV)} {st : List eV} {F : List eFr} {μ : eM} {a : Int} (hr : (dt_co y).get pc = (pc, .ifCond .le off, 3, z, x)) (h1 : (pc : Int) + off = (t1 : Int)) (h2 : pc + 3 = t2) (ha : ev_w a = a) (K1 : a ≤ 0 → ex_q fg rc (d, (y, t1, lv, st), F, μ)) (K2 : 0 < a → ex_q fg rc (d, (y, t2, lv, st), F, μ)) : ex_q fg rc (d, (y, pc, lv, eI a :: st), F, μ) := by
  subst h2
  by_cases hp : a ≤ 0
  · exact w_j hr rfl (h_bt h1 (by rw [ha]; exact hp)) (K1 hp)
  · exact w_j hr rfl (h_bf h1 (by rw [ha]; exact hp)) (K2 (by omega))
theorem b_cle {fg : eG} {rc : eQ} {d y pc t1 t2 : Nat} {z : Nat × Nat × Nat × Nat} {off x : Int} {lv : List (Option eV)} {st : List eV} {F : List eFr} {μ : eM} {a b : Int} (hr : (dt_co y).get pc = (pc, .if_icmp .le off, 3, z, x)) (h1 : (pc : Int) + off = (t1 : Int)) (h2 : pc + 3 = t2) (ha : ev_w a = a) (hb : ev_w b = b) (K1 : a ≤ b → ex_q fg rc (d, (y, t1, lv, st), F, μ)) (K2 : b < a → ex_q fg rc (d, (y, t2, lv, st), F, μ)) : ex_q fg rc (d, (y, pc, lv, eI b :: eI a :: st), F, μ) := by
  subst h2
  by_cases hp : a ≤ b
  · exact w_j hr rfl (h_bt h1 (by rw [ha, hb]; exact hp)) (K1 hp)
  · exact w_j hr rfl (h_bf h1 (by rw [ha, hb]; exact hp)) (K2 (by omega))
theorem b_lle {fg : eG} {rc : eQ} {d y pc t1 t2 : Nat} {z : Nat × Nat × Nat × Nat} {off x : Int} {lv : List (Option eV)} {st : List eV} {F : List eFr} {μ : eM} {n1 : Nat} {z1 : Nat × Nat × Nat × Nat} {x1 : Int} {a b : Int} (hq : (dt_co y).get pc = (pc, .lcmp, n1, z1, x1)) (hr : (dt_co y).get (pc + 1) = (pc + 1, .ifCond .le off, 3, z, x)) (h1 : ((pc + 1 : Nat) : Int) + off = (t1 : Int)) (h2 : pc + 4 = t2) (ha : ev_W a = a) (hb : ev_W b = b) (K1 : a ≤ b → ex_q fg rc (d, (y, t1, lv, st), F, μ)) (K2 : b < a → ex_q fg rc (d, (y, t2, lv, st), F, μ)) : ex_q fg rc (d, (y, pc, lv, eJ b :: eJ a :: st), F, μ) := by
  subst h2
  refine w_s (np := pc + 1) (lv' := lv) (st' := eI (if a > b then 1 else if a = b then 0 else -1) :: st) hq (by show some (lv, eI (if ev_W a > ev_W b then 1 else if ev_W a = ev_W b then 0 else -1) :: st) = _; rw [ha, hb]) rfl ?_
  have hw : ev_w (if a > b then (1 : Int) else if a = b then 0 else -1) = (if a > b then 1 else if a = b then 0 else -1) := by
    split
    · rfl
    · split <;> rfl
  refine b_ile hr h1 rfl hw (fun q => K1 ?_) (fun q => K2 ?_)
  · split at q
    · omega
    · split at q <;> omega
  · split at q
    · omega
    · split at q <;> omega
theorem b_pf {fg : eG} {rc : eQ} {d y pc : Nat} {x : Int} {lv : List (Option eV)} {st : List eV} {F : List eFr} {μ : eM} {np r a b t pl idx : Nat} {v : eV} {w : Int} (hr : (dt_co y).get pc = (pc, .putfield idx, 3, (a, b, t, pl), x)) (hp : pc + 3 = np) (hk : ev_kd μ r = some a) (hv : ev_qv t v = some w) (K : ex_q fg rc (d, (y, np, lv, st), F, (ev_up μ.1 r b w, μ.2))) : ex_q fg rc (d, (y, pc, lv, v :: eR r :: st), F, μ) := by
  subst hp
  exact ex_q_1 (xs_m hr rfl (by show (if ev_kd μ r = some a then (match ev_qv t v with | some z => some (st, (ev_up μ.1 r b z, μ.2)) | none => none) else none) = _; rw [if_pos hk, hv])) K
theorem b_ri {fg : eG} {rc : eQ} {d y pc : Nat} {x : Int} {lv : List (Option eV)} {F : List eFr} {μ : eM} {n : Nat} {v : Int} {z : Nat × Nat × Nat × Nat} {f : eFr} (hr : (dt_co y).get pc = (pc, .ireturn, n, z, x)) (h2 : (dt_pl y).2.1 = 1) (K : ex_q fg rc (d + 1, (f.1, f.2.1, f.2.2.1, eI v :: f.2.2.2), F, μ)) : ex_q fg rc (d, (y, pc, lv, [eI v]), f :: F, μ) := by
  refine w_rt (r := some (eI v)) hr rfl ?_ K
  show (if (dt_pl y).2.1 = 1 ∨ ((dt_pl y).2.1 = 2 ∧ (ev_w v = 0 ∨ ev_w v = 1)) then some (some (eI v)) else none) = _
  rw [if_pos (Or.inl h2)]
theorem b_rz {fg : eG} {rc : eQ} {d y pc : Nat} {x : Int} {lv : List (Option eV)} {F : List eFr} {μ : eM} {n : Nat} {v : Int} {z : Nat × Nat × Nat × Nat} {f : eFr} (hr : (dt_co y).get pc = (pc, .ireturn, n, z, x)) (h2 : (dt_pl y).2.1 = 2) (h3 : ev_w v = 0 ∨ ev_w v = 1) (K : ex_q fg rc (d + 1, (f.1, f.2.1, f.2.2.1, eI v :: f.2.2.2), F, μ)) : ex_q fg rc (d, (y, pc, lv, [eI v]), f :: F, μ) := by
  refine w_rt (r := some (eI v)) hr rfl ?_ K
  show (if (dt_pl y).2.1 = 1 ∨ ((dt_pl y).2.1 = 2 ∧ (ev_w v = 0 ∨ ev_w v = 1)) then some (some (eI v)) else none) = _
  rw [if_pos (Or.inr ⟨h2, h3⟩)]
theorem b_rl {fg : eG} {rc : eQ} {d y pc : Nat} {x : Int} {lv : List (Option eV)} {F : List eFr} {μ : eM} {n : Nat} {v : Int} {z : Nat × Nat × Nat × Nat} {f : eFr} (hr : (dt_co y).get pc = (pc, .lreturn, n, z, x)) (h2 : (dt_pl y).2.1 = 3) (K : ex_q fg rc (d + 1, (f.1, f.2.1, f.2.2.1, eJ v :: f.2.2.2), F, μ)) : ex_q fg rc (d, (y, pc, lv, [eJ v]), f :: F, μ) := by
  refine w_rt (r := some (eJ v)) hr rfl ?_ K
  show (if (dt_pl y).2.1 = 3 then some (some (eJ v)) else none) = _
  rw [if_pos h2]
theorem i_mulb {a b A B : Int} (h1 : -A ≤ a ∧ a ≤ A) (h2 : -B ≤ b ∧ b ≤ B) : -(A * B) ≤ a * b ∧ a * b ≤ A * B := by
  have h3 : a.natAbs ≤ A.toNat := by omega
  have h4 : b.natAbs ≤ B.toNat := by omega
  have h5 : (a * b).natAbs ≤ A.toNat * B.toNat := by
    rw [Int.natAbs_mul]
    exact Nat.mul_le_mul h3 h4
  have h6 : ((A.toNat * B.toNat : Nat) : Int) = A * B := by
    rw [Int.natCast_mul, Int.toNat_of_nonneg (by omega), Int.toNat_of_nonneg (by omega)]
  omega
theorem i_m4 {k kk x : Int} (h : k * k = kk) : (k * x) * (k * x) = kk * (x * x) := by
  rw [Int.mul_assoc, Int.mul_left_comm x k x, ← Int.mul_assoc, h]
theorem i_sq {a b : Int} (ha : 0 ≤ a) (hb : 0 ≤ b) (h : a * a < b * b) : a < b := by
  by_cases q : a < b
  · exact q
  · have h2 : b * b ≤ a * a := Int.mul_le_mul (by omega) (by omega) hb ha
    omega
/-- a whole number and so many times gold: the sign, as class and reference have it, is that of a linear form, near 0 -/
def gV (a b : Int) : Int := 416020 * (2 * a + b) + 930249 * b
theorem g_p1 {x b : Int} (hx : 0 < x) (hb : b < 0) (hn : -400000 ≤ b) (h : 5 * b * b < x * x) : 0 < 416020 * x + 930249 * b := by
  have e1 : (930249 * (-b)) * (930249 * (-b)) = 865363202001 * (b * b) := by
    rw [i_m4 (kk := 865363202001) (by decide), Int.neg_mul_neg]
  have e2 : (416020 * x) * (416020 * x) = 173072640400 * (x * x) := i_m4 (by decide)
  have e3 : 5 * b * b = 5 * (b * b) := Int.mul_assoc _ _ _
  have e4 : b * b ≤ 400000 * 400000 := (i_mulb (A := 400000) (B := 400000) (by omega) (by omega)).2
  have h2 : 930249 * (-b) < 416020 * x := i_sq (by omega) (by omega) (by rw [e1, e2]; omega)
  omega
theorem g_p2 {x b : Int} (hx : 0 < x) (hb : b < 0) (h : x * x ≤ 5 * b * b) : 416020 * x + 930249 * b < 0 := by
  have e1 : (930249 * (-b)) * (930249 * (-b)) = 865363202001 * (b * b) := by
    rw [i_m4 (kk := 865363202001) (by decide), Int.neg_mul_neg]
  have e2 : (416020 * x) * (416020 * x) = 173072640400 * (x * x) := i_m4 (by decide)
  have e3 : 5 * b * b = 5 * (b * b) := Int.mul_assoc _ _ _
  have e4 : 0 < b * b := Int.mul_pos_of_neg_of_neg hb hb
  have h2 : 416020 * x < 930249 * (-b) := i_sq (by omega) (by omega) (by rw [e1, e2]; omega)
  omega
theorem g_p3 {x b : Int} (hx : x < 0) (hb : 0 < b) (h : x * x ≤ 5 * b * b) : 0 < 416020 * x + 930249 * b := by
  have e := g_p2 (x := -x) (b := -b) (by omega) (by omega) (by rw [Int.neg_mul_neg, Int.mul_neg, Int.mul_neg, Int.neg_mul, Int.neg_neg]; exact h)
  omega
theorem g_p4 {x b : Int} (hx : x < 0) (hb : 0 < b) (hn : b ≤ 400000) (h : 5 * b * b < x * x) : 416020 * x + 930249 * b < 0 := by
  have e := g_p1 (x := -x) (b := -b) (by omega) (by omega) (by omega) (by rw [Int.neg_mul_neg, Int.mul_neg, Int.mul_neg, Int.neg_mul, Int.neg_neg]; exact h)
  omega
theorem g_irr {x b : Int} (hx : x < 0) (hb : 0 < b) (hn : b ≤ 400000) (h : x * x = 5 * b * b) : False := by
  have e1 : (930249 * b) * (930249 * b) = 865363202001 * (b * b) := i_m4 (by decide)
  have e2 : (416020 * (-x)) * (416020 * (-x)) = 173072640400 * (x * x) := by
    rw [i_m4 (kk := 173072640400) (by decide), Int.neg_mul_neg]
  have e3 : 5 * b * b = 5 * (b * b) := Int.mul_assoc _ _ _
  have e4 : 0 < b * b := Int.mul_pos hb hb
  have h2 : 416020 * (-x) < 930249 * b := i_sq (by omega) (by omega) (by rw [e1, e2]; omega)
  have h3 : (416020 * (-x) + 1) * (416020 * (-x) + 1) ≤ (930249 * b) * (930249 * b) := Int.mul_le_mul (by omega) (by omega) (by omega) (by omega)
  have h4 : (416020 * (-x) + 1) * (416020 * (-x) + 1) = (416020 * (-x)) * (416020 * (-x)) + 2 * (416020 * (-x)) + 1 := by
    rw [Int.add_mul, Int.mul_add, Int.one_mul, Int.mul_one]
    omega
  have h5 : b * b ≤ 400000 * b := Int.mul_le_mul_of_nonneg_right hn (by omega)
  have h6 : 2 * b ≤ -x := by
    by_cases q : 2 * b ≤ -x
    · exact q
    · have h7 : (-x) * (-x) ≤ (2 * b) * (2 * b) := Int.mul_le_mul (by omega) (by omega) (by omega) (by omega)
      rw [Int.neg_mul_neg, i_m4 (kk := 4) (by decide)] at h7
      omega
  rw [h4, e1, e2] at h3
  omega
/-- the reference's signOf -/
def rSg (x b : Int) : Int := if 0 ≤ x ∧ 0 ≤ b then (if x = 0 ∧ b = 0 then 0 else 1) else if x ≤ 0 ∧ b ≤ 0 then -1 else if 0 < x then (if 5 * b * b < x * x then 1 else -1) else (if x * x < 5 * b * b then 1 else -1)
theorem rSg_ok {x b : Int} (hn : -400000 ≤ b ∧ b ≤ 400000) : (0 ≤ rSg x b ↔ 0 ≤ 416020 * x + 930249 * b) ∧ (rSg x b ≤ 0 ↔ 416020 * x + 930249 * b ≤ 0) := by
  unfold rSg
  by_cases h1 : 0 ≤ x ∧ 0 ≤ b
  · rw [if_pos h1]
    by_cases h2 : x = 0 ∧ b = 0
    · rw [if_pos h2]
      omega
    · rw [if_neg h2]
      omega
  · rw [if_neg h1]
    by_cases h2 : x ≤ 0 ∧ b ≤ 0
    · rw [if_pos h2]
      omega
    · rw [if_neg h2]
      by_cases h3 : 0 < x
      · rw [if_pos h3]
        by_cases h4 : 5 * b * b < x * x
        · rw [if_pos h4]
          have := g_p1 (x := x) (b := b) h3 (by omega) (by omega) h4
          omega
        · rw [if_neg h4]
          have := g_p2 (x := x) (b := b) h3 (by omega) (by omega)
          omega
      · rw [if_neg h3]
        by_cases h4 : x * x < 5 * b * b
        · rw [if_pos h4]
          have := g_p3 (x := x) (b := b) (by omega) (by omega) (by omega)
          omega
        · rw [if_neg h4]
          by_cases h5 : x * x = 5 * b * b
          · exact absurd h5 (fun q => g_irr (by omega) (by omega) hn.2 q)
          · have := g_p4 (x := x) (b := b) (by omega) (by omega) hn.2 (by omega)
            omega
/-- the class's sign -/
def cSg (x b : Int) : Int := if x = 0 ∧ b = 0 then 0 else if 0 ≤ x ∧ 0 ≤ b then 1 else if x ≤ 0 ∧ b ≤ 0 then -1 else if 0 < x then (if 5 * b * b < x * x then 1 else -1) else (if 5 * b * b < x * x then -1 else 1)
theorem cSg_ok {x b : Int} (hn : -400000 ≤ b ∧ b ≤ 400000) : (0 ≤ cSg x b ↔ 0 ≤ 416020 * x + 930249 * b) ∧ (cSg x b ≤ 0 ↔ 416020 * x + 930249 * b ≤ 0) := by
  unfold cSg
  by_cases h0 : x = 0 ∧ b = 0
  · rw [if_pos h0]
    omega
  · rw [if_neg h0]
    by_cases h1 : 0 ≤ x ∧ 0 ≤ b
    · rw [if_pos h1]
      omega
    · rw [if_neg h1]
      by_cases h2 : x ≤ 0 ∧ b ≤ 0
      · rw [if_pos h2]
        omega
      · rw [if_neg h2]
        by_cases h3 : 0 < x
        · rw [if_pos h3]
          by_cases h4 : 5 * b * b < x * x
          · rw [if_pos h4]
            have := g_p1 (x := x) (b := b) h3 (by omega) (by omega) h4
            omega
          · rw [if_neg h4]
            have := g_p2 (x := x) (b := b) h3 (by omega) (by omega)
            omega
        · rw [if_neg h3]
          by_cases h4 : 5 * b * b < x * x
          · rw [if_pos h4]
            have := g_p4 (x := x) (b := b) (by omega) (by omega) hn.2 h4
            omega
          · rw [if_neg h4]
            have := g_p3 (x := x) (b := b) (by omega) (by omega) (by omega)
            omega
theorem rSg_v (x b : Int) : rSg x b = 0 ∨ rSg x b = 1 ∨ rSg x b = -1 := by
  unfold rSg
  split
  · split <;> omega
  · split
    · omega
    · split <;> split <;> omega
theorem cSg_v (x b : Int) : cSg x b = 0 ∨ cSg x b = 1 ∨ cSg x b = -1 := by
  unfold cSg
  split
  · omega
  · split
    · omega
    · split
      · omega
      · split <;> split <;> omega
