/-! more rows: short, byte; static rows of longs; a place of a row with its own bounds -/
theorem h_i2s (a : Int) : ∃ v : Int, (∀ (lv : List (Option eV)) (st : List eV), ev_s .i2s lv (eI a :: st) = some (lv, eI v :: st)) ∧ (-32768 ≤ v ∧ v ≤ 32767) := ⟨_, fun _ _ => rfl, by omega⟩
theorem h_i2b (a : Int) : ∃ v : Int, (∀ (lv : List (Option eV)) (st : List eV), ev_s .i2b lv (eI a :: st) = some (lv, eI v :: st)) ∧ (-128 ≤ v ∧ v ≤ 127) := ⟨_, fun _ _ => rfl, by omega⟩
theorem s_all {L : Nat} {ρ : Nat → Int} {μ : eM} {r j : Nat} {i v : Int} (h1 : r ≠ 1) (h2 : r < 64) (h3 : 0 < r) (h4 : dt_sk r = 101) (h5 : i = (j : Int)) (h6 : j < (dt_sv r).length) (h7 : j < 1000) (h8 : (dt_sv r).getD j 0 = v) : ev_al (dt_fg L ρ) μ 101 r i = some v := by
  have e : dt_fg L ρ r = (dt_sk r, (dt_sv r).length, fun j => (dt_sv r).getD j 0) := by
    unfold dt_fg
    rw [if_neg h1]
  unfold ev_al
  rw [if_pos h2, e, h5, ev_w_in (by omega) (by omega), if_pos ⟨h3, h4, by omega, by show (j : Int) < ((dt_sv r).length : Int); omega⟩]
  show some ((dt_sv r).getD (j : Int).toNat 0) = some v
  rw [Int.toNat_natCast, h8]
theorem j_sj {fg : eG} {L : Nat} {ρ : Nat → Int} {rc : eQ} {d y pc np r b t pl c0 n : Nat} {x i lo hi : Int} {lv : List (Option eV)} {st : List eV} {F : List eFr} {μ : eM} (hfg : fg = dt_fg L ρ) (hr : (dt_co y).get pc = (pc, .laload, 1, (c0, b, t, pl), x)) (hp : pc + 1 = np) (h1 : r ≠ 1) (h2 : r < 64) (h3 : 0 < r) (h4 : dt_sk r = 101) (h5 : (dt_sv r).length = n) (h6 : n < 1000 ∧ (dt_sv r).all (fun z => decide (lo ≤ z) && decide (z ≤ hi)) = true) (h7 : 0 ≤ i) (h8 : i < (n : Int)) (K : ∀ v : Int, lo ≤ v ∧ v ≤ hi → ex_q fg rc (d, (y, np, lv, eJ v :: st), F, μ)) : ex_q fg rc (d, (y, pc, lv, eI i :: eR r :: st), F, μ) := by
  subst hfg
  subst hp
  have h9 : i.toNat < (dt_sv r).length := by omega
  have h10 := List.all_eq_true.mp h6.2 _ (List.getElem_mem h9)
  rw [Bool.and_eq_true] at h10
  refine ex_q_1 (xs_m (st' := eJ ((dt_sv r).getD i.toNat 0) :: st) (μ' := μ) hr rfl ?_) (K _ ?_)
  · simp only [ev_m, s_all (L := L) (ρ := ρ) (μ := μ) (j := i.toNat) (i := i) h1 h2 h3 h4 (by omega) h9 (by omega) rfl]
  · rw [List.getD_eq_getElem?_getD, List.getElem?_eq_getElem h9]
    exact ⟨of_decide_eq_true h10.1, of_decide_eq_true h10.2⟩
/-- a place of a row of ints that has its own bounds -/
theorem j_ap {fg : eG} {rc : eQ} {d y pc np a b t pl c0 ρ n : Nat} {x i lo hi : Int} {lv : List (Option eV)} {st : List eV} {F : List eFr} {μ : eM} {g : Nat → Nat} (hr : (dt_co y).get pc = (pc, .iaload, 1, (c0, b, t, pl), x)) (hp : pc + 1 = np) (hI : SI g μ) (hg : g a = ρ) (h0 : ρ ≠ 0) (hk : RK ρ = (100, n)) (hn : Nat.ble n 1000000 = true) (h1 : 0 ≤ i) (h2 : i < (n : Int)) (hd : SD ρ i.toNat = .inl (lo, hi)) (K : ∀ v : Int, μ.1 a i.toNat = v → lo ≤ v ∧ v ≤ hi → ex_q fg rc (d, (y, np, lv, eI v :: st), F, μ)) : ex_q fg rc (d, (y, pc, lv, eI i :: eR a :: st), F, μ) := w_al hr hp (hI.al hg h0 hk (Nat.ble_eq.mp hn) h1 h2) (K _ rfl (hI.int hg h0 hk (by omega) hd))
