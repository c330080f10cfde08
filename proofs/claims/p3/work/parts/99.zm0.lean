/-! STRING CONSTANTS: their rows -/
theorem xs_u {fg : eG} {d y pc n a b t pl : Nat} {i : Instr} {x : Int} {lv : List (Option eV)} {st st' : List eV} {F : List eFr} {μ : eM} (hr : (dt_co y).get pc = (pc, i, n, (a, b, t, pl), x)) (h1 : ev_s i lv st = none) (h2 : ev_j i n pc st = none) (h3 : ev_m fg i a b t x st μ = none) (h4 : ev_o d i a st μ = none) (h5 : ev_rt y i st = none) (h6 : ev_cl2 μ i a b t st = none) (h : ev_u d i a b st = some st') : ex_1 fg (d, (y, pc, lv, st), F, μ) = some (.inl (d, (y, pc + n, lv, st'), F, μ)) := by
  unfold ex_1
  dsimp only
  rw [hr]
  have hev : ev_1 fg d y pc (pc, i, n, (a, b, t, pl), x) lv st μ = some (.inl (.inl (pc + n, lv, st', μ))) := by
    unfold ev_1
    dsimp only
    rw [if_pos rfl, h1]
    dsimp only
    rw [h2]
    dsimp only
    rw [h3]
    dsimp only
    rw [h4]
    dsimp only
    rw [h5]
    dsimp only
    rw [h6]
    dsimp only
    rw [h]
  rw [hev]
theorem xs_l {i : Instr} {μ : eM} {a b t : Nat} {st : List eV} (h : dt_kl i ≠ 4) : ev_cl2 μ i a b t st = none := by
  unfold ev_cl2
  split
  · cases i <;> first | rfl | exact absurd rfl h
  · rfl
theorem j_ls {fg : eG} {rc : eQ} {d y pc np idx b t pl : Nat} {x : Int} {lv : List (Option eV)} {st : List eV} {F : List eFr} {μ : eM} (hr : (dt_co y).get pc = (pc, .ldc idx, 2, (3, b, t, pl), x)) (hp : pc + 2 = np) (hb : (Nat.ble 1 b && Nat.ble b 63) = true) (K : ex_q fg rc (d, (y, np, lv, eR b :: st), F, μ)) : ex_q fg rc (d, (y, pc, lv, st), F, μ) := by
  subst hp
  rw [Bool.and_eq_true] at hb
  have h1 := Nat.ble_eq.mp hb.1
  have h2 := Nat.ble_eq.mp hb.2
  exact ex_q_1 (xs_u hr rfl rfl rfl rfl rfl (xs_l (by show (2 : Nat) ≠ 4; decide)) (if_pos ⟨rfl, by omega, by omega⟩)) K
theorem j_lw {fg : eG} {rc : eQ} {d y pc np idx b t pl : Nat} {x : Int} {lv : List (Option eV)} {st : List eV} {F : List eFr} {μ : eM} (hr : (dt_co y).get pc = (pc, .ldc_w idx, 3, (3, b, t, pl), x)) (hp : pc + 3 = np) (hb : (Nat.ble 1 b && Nat.ble b 63) = true) (K : ex_q fg rc (d, (y, np, lv, eR b :: st), F, μ)) : ex_q fg rc (d, (y, pc, lv, st), F, μ) := by
  subst hp
  rw [Bool.and_eq_true] at hb
  have h1 := Nat.ble_eq.mp hb.1
  have h2 := Nat.ble_eq.mp hb.2
  exact ex_q_1 (xs_u hr rfl rfl rfl rfl rfl (xs_l (by show (2 : Nat) ≠ 4; decide)) (if_pos ⟨rfl, by omega, by omega⟩)) K
theorem xs_n {idx : Nat} {μ : eM} {a b t : Nat} {st : List eV} (h : a ≠ 0) : ev_cl2 μ (.invokevirtual idx) a b t st = none := by
  unfold ev_cl2
  split
  · dsimp only
    split
    · rw [if_neg (fun q => h q.1)]
    · rfl
  · rfl
theorem j_sn {fg : eG} {rc : eQ} {d y pc np idx b t pl r n : Nat} {x : Int} {lv : List (Option eV)} {st : List eV} {F : List eFr} {μ : eM} (hr : (dt_co y).get pc = (pc, .invokevirtual idx, 3, (21, b, t, pl), x)) (hp : pc + 3 = np) (hd : 4 ≤ d) (h64 : Nat.ble r 63 = true) (hn : (dt_ks r).length = n) (hn0 : Nat.ble 1 n = true) (hc : Nat.ble (st.map ev_cat).sum 8 = true) (K : ex_q fg rc (d, (y, np, lv, eI (n : Int) :: st), F, μ)) : ex_q fg rc (d, (y, pc, lv, eR r :: st), F, μ) := by
  subst hp
  subst hn
  have h1 := Nat.ble_eq.mp h64
  have h2 := Nat.ble_eq.mp hn0
  have h3 := Nat.ble_eq.mp hc
  refine ex_q_1 (xs_u hr (kl_s (by show (4 : Nat) ≠ 0; decide) _ _) (kl_j (by show (4 : Nat) ≠ 1; decide) _ _ _) (kl_m (by show (4 : Nat) ≠ 2; decide) _ _ _ _ _ _ _) rfl (kl_rt (by show (4 : Nat) ≠ 3; decide) _ _) (xs_n (by decide)) ?_) K
  show (if 21 = 21 ∧ 4 ≤ d ∧ r < 64 ∧ 0 < (dt_ks r).length ∧ (st.map ev_cat).sum ≤ 8 then some _ else none) = _
  rw [if_pos ⟨rfl, hd, by omega, h2, h3⟩]
theorem j_sc {fg : eG} {rc : eQ} {d y pc np idx b t pl r n : Nat} {x i lo hi : Int} {lv : List (Option eV)} {st : List eV} {F : List eFr} {μ : eM} (hr : (dt_co y).get pc = (pc, .invokevirtual idx, 3, (22, b, t, pl), x)) (hp : pc + 3 = np) (hd : 4 ≤ d) (h64 : Nat.ble r 63 = true) (hn : (dt_ks r).length = n) (h1 : 0 ≤ i) (h2 : i < (n : Int)) (ha : (decide (n < 1000) && (dt_ks r).all (fun z => decide (lo ≤ z) && decide (z ≤ hi))) = true) (hc : Nat.ble (st.map ev_cat).sum 8 = true) (K : ∀ v : Int, lo ≤ v ∧ v ≤ hi → ex_q fg rc (d, (y, np, lv, eI v :: st), F, μ)) : ex_q fg rc (d, (y, pc, lv, eI i :: eR r :: st), F, μ) := by
  subst hp
  subst hn
  have h3 := Nat.ble_eq.mp h64
  have h4 := Nat.ble_eq.mp hc
  rw [Bool.and_eq_true] at ha
  have h9 := of_decide_eq_true ha.1
  have hw : ev_w i = i := ev_w_in (by omega) (by omega)
  have h5 : i.toNat < (dt_ks r).length := by omega
  refine ex_q_1 (E' := (d, (y, pc + 3, lv, eI ((dt_ks r).getD i.toNat 0) :: st), F, μ)) (xs_u hr (kl_s (by show (4 : Nat) ≠ 0; decide) _ _) (kl_j (by show (4 : Nat) ≠ 1; decide) _ _ _) (kl_m (by show (4 : Nat) ≠ 2; decide) _ _ _ _ _ _ _) rfl (kl_rt (by show (4 : Nat) ≠ 3; decide) _ _) (xs_n (by decide)) ?_) (K _ ?_)
  · show (if 22 = 22 ∧ 4 ≤ d ∧ r < 64 ∧ 0 ≤ ev_w i ∧ ev_w i < ((dt_ks r).length : Int) ∧ (st.map ev_cat).sum ≤ 8 then some _ else none) = _
    rw [hw, if_pos ⟨rfl, hd, by omega, h1, h2, h4⟩]
  · have h10 := List.all_eq_true.mp ha.2 _ (List.getElem_mem h5)
    rw [Bool.and_eq_true] at h10
    rw [List.getD_eq_getElem?_getD, List.getElem?_eq_getElem h5]
    exact ⟨of_decide_eq_true h10.1, of_decide_eq_true h10.2⟩
/-! a byte of the tape -/
theorem h_iandx {a b : Int} (h0 : 0 ≤ b) (h1 : b < 2147483648) : ∃ v : Int, (∀ (lv : List (Option eV)) (st : List eV), ev_s .iand lv (eI b :: eI a :: st) = some (lv, eI v :: st)) ∧ (0 ≤ v ∧ v ≤ b) ∧ v = (Int32.ofInt a &&& Int32.ofInt b).toInt := by
  obtain ⟨v, h2, h3⟩ := h_iand (a := a) (b := b) h0 h1
  refine ⟨v, h2, h3, ?_⟩
  have h4 := h2 [] []
  have h5 : ev_s .iand [] (eI b :: eI a :: []) = some ([], eI ((Int32.ofInt a &&& Int32.ofInt b).toInt) :: []) := rfl
  rw [h5] at h4
  cases h4
  rfl
def bF (le : Int) (t : Nat → Int) (i : Int) : Int := if 0 ≤ i ∧ i < le ∧ i < 900 then (Int32.ofInt (t i.toNat) &&& Int32.ofInt 255).toInt else -1
theorem bF_y {le i v x : Int} {t : Nat → Int} (h : 0 ≤ i ∧ i < le ∧ i < 900) (ht : t i.toNat = x) (hv : v = (Int32.ofInt x &&& Int32.ofInt 255).toInt) : v = bF le t i := by
  unfold bF
  rw [if_pos h, ht]
  exact hv
theorem bF_n {le i : Int} {t : Nat → Int} (h : i < 0 ∨ le ≤ i ∨ 900 ≤ i) : (-1 : Int) = bF le t i := by
  unfold bF
  rw [if_neg (by omega)]
theorem h_idivp {a k : Int} (hk : 0 < k) (hk2 : k < 2147483648) : ∃ v : Int, (∀ (lv : List (Option eV)) (st : List eV), ev_s .idiv lv (eI k :: eI a :: st) = some (lv, eI v :: st)) ∧ (-2147483648 ≤ v ∧ v ≤ 2147483647) := by
  refine ⟨ev_w (Int.tdiv (ev_w a) (ev_w k)), fun lv st => ?_, hw_bd _⟩
  have e1 : ev_w k = k := ev_w_in (by omega) (by omega)
  show Option.map _ (if ev_w k = 0 then none else some (eI (ev_w (Int.tdiv (ev_w a) (ev_w k))))) = _
  rw [if_neg (by omega)]
  rfl
