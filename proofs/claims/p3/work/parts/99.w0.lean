/-! System.arraycopy between rows of one region -/
theorem cp_wr {μ : eM} {g : Nat → Nat} {q r ρ k n sp dp n1 : Nat} {lo hi : Int} (hI : SI g μ) (hq : g q = ρ) (hr : g r = ρ) (h0 : ρ ≠ 0) (hk : RK ρ = (k, n)) (hd : ∀ j, SD ρ j = .inl (lo, hi)) (h1 : sp + n1 ≤ n) (h2 : dp + n1 ≤ n) : SI g (ev_ur μ.1 r (ev_cq (μ.1 q) (μ.1 r) sp dp n1), μ.2) ∧ (Nat.ble 100 k = true → Fr [256 * ρ] 0 0 g μ (ev_ur μ.1 r (ev_cq (μ.1 q) (μ.1 r) sp dp n1), μ.2)) := by
  have e : ∀ b j, b ≠ r → ev_ur μ.1 r (ev_cq (μ.1 q) (μ.1 r) sp dp n1) b j = μ.1 b j := fun b j hb => by
    unfold ev_ur
    rw [if_neg hb]
  have er : ∀ j, ev_ur μ.1 r (ev_cq (μ.1 q) (μ.1 r) sp dp n1) r j = ev_cq (μ.1 q) (μ.1 r) sp dp n1 j := fun j => by
    unfold ev_ur
    rw [if_pos rfl]
  refine ⟨⟨hI.1, hI.2.1, fun b j hb hj => ?_, hI.2.2.2⟩, fun hk2 => ⟨Nat.le_refl _, Nat.le_refl _, fun b j hb hn => ?_⟩⟩
  · show hOk g (SD (g b) j) (ev_ur μ.1 r (ev_cq (μ.1 q) (μ.1 r) sp dp n1) b j)
    by_cases hbr : b = r
    · subst hbr
      rw [er, hr, hd]
      rw [hr, hk] at hj
      show lo ≤ _ ∧ _ ≤ hi
      unfold ev_cq
      split
      · exact hI.int hq h0 hk (by omega) (hd _)
      · exact hI.int hr h0 hk hj (hd _)
    · rw [e b j hbr]
      exact hI.2.2.1 b j hb hj
  · show ev_ur μ.1 r (ev_cq (μ.1 q) (μ.1 r) sp dp n1) b j = μ.1 b j
    refine e b j (fun z => hn ?_)
    rw [z, hr, fc_row (by rw [hk]; exact hk2)]
    exact List.mem_cons_self
theorem j_cp {fg : eG} {rc : eQ} {d y pc np b t pl idx q r ρ k n : Nat} {x sp dp n1 lo hi : Int} {lv : List (Option eV)} {st : List eV} {F : List eFr} {μ : eM} {g : Nat → Nat} (hrow : (dt_co y).get pc = (pc, .invokestatic idx, 3, (23, b, t, pl), x)) (hp : pc + 3 = np) (hI : SI g μ) (hq : g q = ρ) (hr : g r = ρ) (h0 : ρ ≠ 0) (hk : RK ρ = (k, n)) (hk2 : k = 100 ∨ k = 101) (hn : Nat.ble n 1000000 = true) (hd : ∀ j, SD ρ j = .inl (lo, hi)) (h1 : 0 ≤ sp) (h2 : 0 ≤ dp) (h3 : 0 ≤ n1) (h4 : sp + n1 ≤ (n : Int)) (h5 : dp + n1 ≤ (n : Int)) (h6 : Nat.ble (st.map ev_cat).sum 8 = true) (K : ∀ μ2 : eM, SI g μ2 → Fr [256 * ρ] 0 0 g μ μ2 → ex_q fg rc (d + 1, (y, np, lv, st), F, μ2)) : ex_q fg rc (d + 1, (y, pc, lv, eI n1 :: eI dp :: eR r :: eI sp :: eR q :: st), F, μ) := by
  subst hp
  have hn := Nat.ble_eq.mp hn
  have e1 : ev_kn μ q = some (k, n) := (hI.kn hq h0).trans (by rw [hk])
  have e2 : ev_kn μ r = some (k, n) := (hI.kn hr h0).trans (by rw [hk])
  have w1 : ev_w sp = sp := ev_w_in (by omega) (by omega)
  have w2 : ev_w dp = dp := ev_w_in (by omega) (by omega)
  have w3 : ev_w n1 = n1 := ev_w_in (by omega) (by omega)
  have hfin := cp_wr (sp := sp.toNat) (dp := dp.toNat) (n1 := n1.toNat) hI hq hr h0 hk hd (by omega) (by omega)
  have hk100 : Nat.ble 100 k = true := by
    rcases hk2 with rfl | rfl <;> rfl
  have hzero : ∀ (c : Prop) [Decidable c], True := fun _ _ => True.intro
  by_cases hz : sp = 0 ∧ dp = 0
  · obtain ⟨rfl, rfl⟩ := hz
    refine ex_q_1 (xs_o (st' := st) (μ' := (ev_ur μ.1 r (ev_cp (μ.1 q) (μ.1 r) (ev_w n1).toNat), μ.2)) hrow rfl ?_) ?_
    · show (if 23 = 23 ∧ 0 < d + 1 ∧ (st.map ev_cat).sum ≤ 8 ∧ ev_w 0 = 0 ∧ ev_w 0 = 0 ∧ 0 ≤ ev_w n1 then (match ev_kn μ q, ev_kn μ r with
        | some (k0, n0), some (k1, n2) => if k0 = k1 ∧ (k1 = 100 ∨ k1 = 101) ∧ ev_w n1 ≤ (n0 : Int) ∧ ev_w n1 ≤ (n2 : Int) then some (st, (ev_ur μ.1 r (ev_cp (μ.1 q) (μ.1 r) (ev_w n1).toNat), μ.2)) else none
        | _, _ => none) else _) = _
      rw [if_pos ⟨rfl, by omega, Nat.ble_eq.mp h6, w1, w1, by omega⟩, e1, e2]
      dsimp only
      rw [if_pos ⟨rfl, hk2, by omega, by omega⟩]
    · have ee : ev_cp (μ.1 q) (μ.1 r) (ev_w n1).toNat = ev_cq (μ.1 q) (μ.1 r) (0 : Int).toNat (0 : Int).toNat n1.toNat := by
        funext j
        unfold ev_cp ev_cq
        rw [w3]
        by_cases hj : j < n1.toNat
        · rw [if_pos hj, if_pos ⟨Nat.zero_le _, by omega⟩]
          rw [show (0 : Int).toNat + (j - (0 : Int).toNat) = j from by show 0 + (j - 0) = j; omega]
        · rw [if_neg hj, if_neg (fun z => hj (by have := z.2; omega))]
      rw [ee]
      exact K _ hfin.1 (hfin.2 hk100)
  · refine ex_q_1 (xs_o (st' := st) (μ' := (ev_ur μ.1 r (ev_cq (μ.1 q) (μ.1 r) (ev_w sp).toNat (ev_w dp).toNat (ev_w n1).toNat), μ.2)) hrow rfl ?_) ?_
    · show (if 23 = 23 ∧ 0 < d + 1 ∧ (st.map ev_cat).sum ≤ 8 ∧ ev_w sp = 0 ∧ ev_w dp = 0 ∧ 0 ≤ ev_w n1 then _ else if 23 = 23 ∧ 0 < d + 1 ∧ (st.map ev_cat).sum ≤ 8 ∧ 0 ≤ ev_w sp ∧ 0 ≤ ev_w dp ∧ 0 ≤ ev_w n1 then (match ev_kn μ q, ev_kn μ r with
        | some (k0, n0), some (k1, n2) => if k0 = k1 ∧ (k1 = 100 ∨ k1 = 101) ∧ ev_w sp + ev_w n1 ≤ (n0 : Int) ∧ ev_w dp + ev_w n1 ≤ (n2 : Int) then some (st, (ev_ur μ.1 r (ev_cq (μ.1 q) (μ.1 r) (ev_w sp).toNat (ev_w dp).toNat (ev_w n1).toNat), μ.2)) else none
        | _, _ => none) else none) = _
      rw [if_neg (fun z => hz ⟨by omega, by omega⟩), if_pos ⟨rfl, by omega, Nat.ble_eq.mp h6, by omega, by omega, by omega⟩, e1, e2]
      dsimp only
      rw [if_pos ⟨rfl, hk2, by omega, by omega⟩]
    · rw [w1, w2, w3]
      exact K _ hfin.1 (hfin.2 hk100)
