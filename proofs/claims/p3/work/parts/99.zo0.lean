/-! THE REFERENCE: what holds needs of memory (its cell is 98, its rows 102 kinds, 110 points, 113 to 115 mates and legs) -/
def hM (n : Nat) (p κ : Nat → Int) (μ : eM) : Prop := n ≤ 890 ∧ ev_kd μ 98 = some 11 ∧ (μ.1 98 8 = (n : Int) ∧ μ.1 98 12 = 102 ∧ μ.1 98 22 = 110 ∧ μ.1 98 25 = 113 ∧ μ.1 98 26 = 114 ∧ μ.1 98 27 = 115) ∧ (h_ar μ 102 890 ∧ h_ar μ 110 2670 ∧ h_ar μ 113 890 ∧ h_ar μ 114 890 ∧ h_ar μ 115 890) ∧ (∀ k, k < 3 * n → μ.1 110 k = p k) ∧ (∀ k, k < n → μ.1 102 k = κ k) ∧ (∀ k, ev_w (p k) = p k) ∧ ∀ k, ev_w (κ k) = κ k
theorem hM.kd {n : Nat} {p κ : Nat → Int} {μ : eM} (h : hM n p κ μ) : ev_kd μ 98 = some 11 := h.2.1
theorem hM.le {n : Nat} {p κ : Nat → Int} {μ : eM} (h : hM n p κ μ) : n ≤ 890 := h.1
/-- as it was but for some rows -/
def hW (n : Nat) (μ μ' : eM) : Prop := ∀ q k, q = 114 ∨ q = 115 → μ'.1 q k = μ.1 q k ∨ (k < n ∧ 0 ≤ μ'.1 q k ∧ μ'.1 q k < (n : Int))
def hR (n : Nat) (μ μ' : eM) : Prop := μ'.2 = μ.2 ∧ (∀ q, q ≠ 114 → q ≠ 115 → μ'.1 q = μ.1 q) ∧ hW n μ μ'
def hT (n : Nat) (μ μ' : eM) : Prop := μ'.2 = μ.2 ∧ (∀ q, q ≠ 113 → q ≠ 114 → q ≠ 115 → μ'.1 q = μ.1 q) ∧ hW n μ μ'
theorem hW.r (n : Nat) (μ : eM) : hW n μ μ := fun _ _ _ => Or.inl rfl
theorem hW.tr {n : Nat} {a b c : eM} (h : hW n a b) (h2 : hW n b c) : hW n a c := fun q k hq => by
  rcases h2 q k hq with e | e
  · rw [e]
    exact h q k hq
  · exact Or.inr e
theorem hW.up {n : Nat} {a b : eM} {q j : Nat} {x : Int} (h : hW n a b) (hj : j < n) (hx : 0 ≤ x ∧ x < (n : Int)) : hW n a (ev_up b.1 q j x, b.2) := fun q2 k hq => by
  show ev_up b.1 q j x q2 k = _ ∨ _
  by_cases e1 : q2 = q
  · subst e1
    rw [h_up_eq]
    by_cases e2 : k = j
    · subst e2
      rw [if_pos rfl]
      refine Or.inr ⟨hj, ?_⟩
      show 0 ≤ ev_up b.1 q2 k x q2 k ∧ ev_up b.1 q2 k x q2 k < _
      rw [h_up_eq, if_pos rfl]
      exact hx
    · rw [if_neg e2]
      rcases h q2 k hq with e | e
      · exact Or.inl e
      · refine Or.inr ⟨e.1, ?_⟩
        show 0 ≤ ev_up b.1 q2 j x q2 k ∧ ev_up b.1 q2 j x q2 k < _
        rw [h_up_eq, if_neg e2]
        exact e.2
  · have e : ev_up b.1 q j x q2 = b.1 q2 := h_up_ne e1
    show ev_up b.1 q j x q2 k = _ ∨ (k < n ∧ 0 ≤ ev_up b.1 q j x q2 k ∧ ev_up b.1 q j x q2 k < _)
    rw [e]
    exact h q2 k hq
theorem hR.t {n : Nat} {μ μ' : eM} (h : hR n μ μ') : hT n μ μ' := ⟨h.1, fun q _ h2 h3 => h.2.1 q h2 h3, h.2.2⟩
theorem hT.r {n : Nat} (μ : eM) : hT n μ μ := ⟨rfl, fun _ _ _ _ => rfl, hW.r n μ⟩
theorem hR.r {n : Nat} (μ : eM) : hR n μ μ := ⟨rfl, fun _ _ _ => rfl, hW.r n μ⟩
theorem hT.tr {n : Nat} {a b c : eM} (h : hT n a b) (h2 : hT n b c) : hT n a c := ⟨by rw [h2.1, h.1], fun q h3 h4 h5 => by rw [h2.2.1 q h3 h4 h5, h.2.1 q h3 h4 h5], h.2.2.tr h2.2.2⟩
theorem hR.tr {n : Nat} {a b c : eM} (h : hR n a b) (h2 : hR n b c) : hR n a c := ⟨by rw [h2.1, h.1], fun q h4 h5 => by rw [h2.2.1 q h4 h5, h.2.1 q h4 h5], h.2.2.tr h2.2.2⟩
theorem hT.up {n : Nat} {a b : eM} {q j : Nat} {x : Int} (h : hT n a b) (hq : q = 113 ∨ q = 114 ∨ q = 115) (hj : j < n) (hx : 0 ≤ x ∧ x < (n : Int)) : hT n a (ev_up b.1 q j x, b.2) := ⟨h.1, fun q2 h3 h4 h5 => by
  rw [← h.2.1 q2 h3 h4 h5]
  exact h_up_ne (by omega), h.2.2.up hj hx⟩
theorem hR.up {n : Nat} {a b : eM} {q j : Nat} {x : Int} (h : hR n a b) (hq : q = 114 ∨ q = 115) (hj : j < n) (hx : 0 ≤ x ∧ x < (n : Int)) : hR n a (ev_up b.1 q j x, b.2) := ⟨h.1, fun q2 h4 h5 => by
  rw [← h.2.1 q2 h4 h5]
  exact h_up_ne (by omega), h.2.2.up hj hx⟩
theorem h_ar.t {a b : eM} {q n : Nat} (h : h_ar a q n) (h2 : b.2 = a.2) : h_ar b q n := ⟨h.1, by rw [h2]; exact h.2.1, h.2.2⟩
theorem hM.t {n : Nat} {p κ : Nat → Int} {a b : eM} (h : hM n p κ a) (h2 : hT n a b) : hM n p κ b := by
  obtain ⟨h0, h1, hf, hh, h5, h6, h7⟩ := h
  have e : ∀ q, q ≠ 113 → q ≠ 114 → q ≠ 115 → b.1 q = a.1 q := h2.2.1
  refine ⟨h0, ?_, ?_, ⟨hh.1.t h2.1, hh.2.1.t h2.1, hh.2.2.1.t h2.1, hh.2.2.2.1.t h2.1, hh.2.2.2.2.t h2.1⟩, ?_, ?_, h7⟩
  · unfold ev_kd at h1 ⊢
    rw [h2.1]
    exact h1
  · rw [e 98 (by decide) (by decide) (by decide)]
    exact hf
  · rw [e 110 (by decide) (by decide) (by decide)]
    exact h5
  · rw [e 102 (by decide) (by decide) (by decide)]
    exact h6
theorem hM.pv {n : Nat} {p κ : Nat → Int} {μ : eM} (h : hM n p κ μ) : ev_pv 0 (μ.1 98 8) = eI (n : Int) ∧ ev_pv 3 (μ.1 98 12) = eR 102 ∧ ev_pv 3 (μ.1 98 22) = eR 110 ∧ ev_pv 3 (μ.1 98 25) = eR 113 ∧ ev_pv 3 (μ.1 98 26) = eR 114 ∧ ev_pv 3 (μ.1 98 27) = eR 115 := by
  obtain ⟨h0, h1, ⟨f0, f1, f2, f3, f4, f5⟩, -⟩ := h
  rw [f0, f1, f2, f3, f4, f5]
  exact ⟨rfl, rfl, rfl, rfl, rfl, rfl⟩
theorem c_pt {fg : eG} {rc : eQ} {d y pc np idx pl : Nat} {x : Int} {lv : List (Option eV)} {st : List eV} {F : List eFr} {μ : eM} {n : Nat} {p κ : Nat → Int} {i w : Int} {k : Nat} (h : hM n p κ μ) (hr : (dt_co y).get pc = (pc, .invokevirtual idx, 3, (0, 238, 2, pl), x)) (hp : pc + 3 = np) (hs : Nat.ble (st.map ev_cat).sum 8 = true) (hi : 0 ≤ i ∧ i < 1000) (hw0 : 0 ≤ w ∧ w < 3) (hk : 3 * i + w = (k : Int)) (hkn : k < 3 * n) (K : ex_q fg rc (d + 1, (y, np, lv, eI (p k) :: st), F, μ)) : ex_q fg rc (d + 1, (y, pc, lv, eI w :: eI i :: eR 98 :: st), F, μ) := by
  have hle := h.le
  have hv : ev_al fg μ 100 110 (3 * i + w) = some (p k) := by
    rw [h_al h.2.2.2.1.2.1 hk (by omega), h.2.2.2.2.1 k hkn]
  refine w_cv (as := [eI i, eI w]) (lv' := [some (eR 98), some (eI i), some (eI w)]) hr hp rfl (by simp only [List.length_cons]; omega) hs rfl rfl h.kd rfl ?_
  refine w_s (np := 1) (lv' := [some (eR 98), some (eI (i)), some (eI (w))]) (st' := [eR 98]) rfl rfl rfl ?_
  refine w_gf (np := 4) (v := eR 110) rfl rfl h.kd h.pv.2.2.1 ?_
  refine w_s (np := 5) (lv' := [some (eR 98), some (eI (i)), some (eI (w))]) (st' := [eI (3), eR 110]) rfl rfl rfl ?_
  refine w_s (np := 6) (lv' := [some (eR 98), some (eI (i)), some (eI (w))]) (st' := [eI (i), eI (3), eR 110]) rfl rfl rfl ?_
  have hw : ev_w ((3) * (i)) = ((3) * (i)) := ev_w_in (by omega) (by omega)
  refine w_s (np := 7) (lv' := [some (eR 98), some (eI (i)), some (eI (w))]) (st' := [eI ((3) * (i)), eR 110]) rfl (congrArg (fun q : Int => (some ([some (eR 98), some (eI (i)), some (eI (w))], eI q :: [eR 110]) : Option (List (Option eV) × List eV))) hw) rfl ?_
  clear hw
  refine w_s (np := 8) (lv' := [some (eR 98), some (eI (i)), some (eI (w))]) (st' := [eI (w), eI ((3) * (i)), eR 110]) rfl rfl rfl ?_
  have hw : ev_w (((3) * (i)) + (w)) = (((3) * (i)) + (w)) := ev_w_in (by omega) (by omega)
  refine w_s (np := 9) (lv' := [some (eR 98), some (eI (i)), some (eI (w))]) (st' := [eI (((3) * (i)) + (w)), eR 110]) rfl (congrArg (fun q : Int => (some ([some (eR 98), some (eI (i)), some (eI (w))], eI q :: [eR 110]) : Option (List (Option eV) × List eV))) hw) rfl ?_
  clear hw
  refine w_al (np := 10) (v := p k) rfl rfl hv ?_
  refine w_rt rfl rfl rfl ?_
  exact K
theorem c_sm_1 {fg : eG} {rc : eQ} {d : Nat} {lv : List (Option eV)} {f : eFr} {F : List eFr} {μ : eM} (K : ∀ v : Int, v = 0 ∨ v = 1 → ex_q fg rc (d + 1, (f.1, f.2.1, f.2.2.1, eI v :: f.2.2.2), F, μ)) : ex_q fg rc (d, (240, 24, lv, []), f :: F, μ) ∧ ex_q fg rc (d, (240, 20, lv, []), f :: F, μ) := by
  constructor
  · refine w_s (np := 25) (lv' := lv) (st' := [eI 0]) rfl rfl rfl ?_
    refine w_rt rfl rfl rfl ?_
    exact K 0 (Or.inl rfl)
  · refine w_s (np := 21) (lv' := lv) (st' := [eI 1]) rfl rfl rfl ?_
    refine w_go (t1 := 25) rfl rfl ?_
    refine w_rt rfl rfl rfl ?_
    exact K 1 (Or.inr rfl)
theorem c_sm {fg : eG} {rc : eQ} {d y pc np idx pl : Nat} {x : Int} {lv : List (Option eV)} {st : List eV} {F : List eFr} {μ : eM} {a b c e : Int} (hr : (dt_co y).get pc = (pc, .invokestatic idx, 3, (2, 240, 4, pl), x)) (hp : pc + 3 = np) (hs : Nat.ble (st.map ev_cat).sum 8 = true) (K : ∀ v : Int, v = 0 ∨ v = 1 → ex_q fg rc (d + 1, (y, np, lv, eI v :: st), F, μ)) : ex_q fg rc (d + 1, (y, pc, lv, eI e :: eI c :: eI b :: eI a :: st), F, μ) := by
  have K' : ex_q fg rc (d, (240, 24, [some (eI a), some (eI b), some (eI c), some (eI e)], []), (y, np, lv, st) :: F, μ) ∧ ex_q fg rc (d, (240, 20, [some (eI a), some (eI b), some (eI c), some (eI e)], []), (y, np, lv, st) :: F, μ) := c_sm_1 K
  refine w_cs (as := [eI a, eI b, eI c, eI e]) (lv' := [some (eI a), some (eI b), some (eI c), some (eI e)]) hr hp rfl (by simp only [List.length_cons]; omega) hs rfl rfl rfl ?_
  have K10 : ex_q fg rc (d, (240, 10, [some (eI a), some (eI b), some (eI c), some (eI e)], []), (y, np, lv, st) :: F, μ) := by
    refine w_s (np := 11) (lv' := [some (eI a), some (eI b), some (eI c), some (eI e)]) (st' := [eI a]) rfl rfl rfl ?_
    refine w_s (np := 12) (lv' := [some (eI a), some (eI b), some (eI c), some (eI e)]) (st' := [eI e, eI a]) rfl rfl rfl ?_
    refine w_ix (t1 := 24) (t2 := 15) rfl rfl rfl K'.1 ?_
    refine w_s (np := 16) (lv' := [some (eI a), some (eI b), some (eI c), some (eI e)]) (st' := [eI b]) rfl rfl rfl ?_
    refine w_s (np := 17) (lv' := [some (eI a), some (eI b), some (eI c), some (eI e)]) (st' := [eI c, eI b]) rfl rfl rfl ?_
    exact w_ix (t1 := 24) (t2 := 20) rfl rfl rfl K'.1 K'.2
  refine w_s (np := 1) (lv' := [some (eI a), some (eI b), some (eI c), some (eI e)]) (st' := [eI a]) rfl rfl rfl ?_
  refine w_s (np := 2) (lv' := [some (eI a), some (eI b), some (eI c), some (eI e)]) (st' := [eI c, eI a]) rfl rfl rfl ?_
  refine w_ix (t1 := 10) (t2 := 5) rfl rfl rfl K10 ?_
  refine w_s (np := 6) (lv' := [some (eI a), some (eI b), some (eI c), some (eI e)]) (st' := [eI b]) rfl rfl rfl ?_
  refine w_s (np := 7) (lv' := [some (eI a), some (eI b), some (eI c), some (eI e)]) (st' := [eI e, eI b]) rfl rfl rfl ?_
  exact w_ix (t1 := 20) (t2 := 10) rfl rfl rfl K'.2 K10
theorem c_hl {fg : eG} {rc : eQ} {d y pc np idx pl : Nat} {x : Int} {lv : List (Option eV)} {st : List eV} {F : List eFr} {μ : eM} {n : Nat} {p κ : Nat → Int} {j : Nat} {u v : Int} (h : hM n p κ μ) (hr : (dt_co y).get pc = (pc, .invokevirtual idx, 3, (0, 241, 3, pl), x)) (hp : pc + 3 = np) (hs : Nat.ble (st.map ev_cat).sum 8 = true) (hj : j < n) (K : ∀ v : Int, v = 0 ∨ v = 1 → ex_q fg rc (d + 2, (y, np, lv, eI v :: st), F, μ)) : ex_q fg rc (d + 2, (y, pc, lv, eI v :: eI u :: eI (j : Int) :: eR 98 :: st), F, μ) := by
  have hle := h.le
  refine w_cv (d := d + 1) (as := [eI (j : Int), eI u, eI v]) (lv' := [some (eR 98), some (eI (j : Int)), some (eI u), some (eI v)]) hr hp rfl (by simp only [List.length_cons]; omega) hs rfl rfl h.kd rfl ?_
  have K0 : ex_q fg rc (d + 1, (241, 44, [some (eR 98), some (eI (j : Int)), some (eI u), some (eI v)], []), (y, np, lv, st) :: F, μ) := by
    refine w_s (np := 45) (lv' := [some (eR 98), some (eI (j : Int)), some (eI u), some (eI v)]) (st' := [eI 0]) rfl rfl rfl ?_
    refine w_rt rfl rfl rfl ?_
    exact K 0 (Or.inl rfl)
  have K1 : ex_q fg rc (d + 1, (241, 40, [some (eR 98), some (eI (j : Int)), some (eI u), some (eI v)], []), (y, np, lv, st) :: F, μ) := by
    refine w_s (np := 41) (lv' := [some (eR 98), some (eI (j : Int)), some (eI u), some (eI v)]) (st' := [eI 1]) rfl rfl rfl ?_
    refine w_go (t1 := 45) rfl rfl ?_
    refine w_rt rfl rfl rfl ?_
    exact K 1 (Or.inr rfl)
  have K20 : ex_q fg rc (d + 1, (241, 20, [some (eR 98), some (eI (j : Int)), some (eI u), some (eI v)], []), (y, np, lv, st) :: F, μ) := by
    refine w_s (np := 21) (lv' := [some (eR 98), some (eI (j : Int)), some (eI u), some (eI v)]) (st' := [eR 98]) rfl rfl rfl ?_
    refine w_s (np := 22) (lv' := [some (eR 98), some (eI (j : Int)), some (eI u), some (eI v)]) (st' := [eI (j : Int), eR 98]) rfl rfl rfl ?_
    refine w_s (np := 23) (lv' := [some (eR 98), some (eI (j : Int)), some (eI u), some (eI v)]) (st' := [eI (0), eI (j : Int), eR 98]) rfl rfl rfl ?_
    refine c_pt (np := 26) (k := 3 * j + 0) h rfl rfl rfl (by omega) (by omega) (by omega) (by omega) ?_
    refine w_s (np := 27) (lv' := [some (eR 98), some (eI (j : Int)), some (eI u), some (eI v)]) (st' := [eR 98, eI (p (3 * j + 0))]) rfl rfl rfl ?_
    refine w_s (np := 28) (lv' := [some (eR 98), some (eI (j : Int)), some (eI u), some (eI v)]) (st' := [eI (j : Int), eR 98, eI (p (3 * j + 0))]) rfl rfl rfl ?_
    refine w_s (np := 29) (lv' := [some (eR 98), some (eI (j : Int)), some (eI u), some (eI v)]) (st' := [eI (2), eI (j : Int), eR 98, eI (p (3 * j + 0))]) rfl rfl rfl ?_
    refine c_pt (np := 32) (k := 3 * j + 2) h rfl rfl rfl (by omega) (by omega) (by omega) (by omega) ?_
    refine w_s (np := 33) (lv' := [some (eR 98), some (eI (j : Int)), some (eI u), some (eI v)]) (st' := [eI u, eI (p (3 * j + 2)), eI (p (3 * j + 0))]) rfl rfl rfl ?_
    refine w_s (np := 34) (lv' := [some (eR 98), some (eI (j : Int)), some (eI u), some (eI v)]) (st' := [eI v, eI u, eI (p (3 * j + 2)), eI (p (3 * j + 0))]) rfl rfl rfl ?_
    refine c_sm (np := 37) rfl rfl rfl ?_
    intro g hg
    exact w_i0 (t1 := 44) (t2 := 40) rfl rfl rfl K0 K1
  refine w_s (np := 1) (lv' := [some (eR 98), some (eI (j : Int)), some (eI u), some (eI v)]) (st' := [eR 98]) rfl rfl rfl ?_
  refine w_s (np := 2) (lv' := [some (eR 98), some (eI (j : Int)), some (eI u), some (eI v)]) (st' := [eI (j : Int), eR 98]) rfl rfl rfl ?_
  refine w_s (np := 3) (lv' := [some (eR 98), some (eI (j : Int)), some (eI u), some (eI v)]) (st' := [eI (0), eI (j : Int), eR 98]) rfl rfl rfl ?_
  refine c_pt (np := 6) (k := 3 * j + 0) h rfl rfl rfl (by omega) (by omega) (by omega) (by omega) ?_
  refine w_s (np := 7) (lv' := [some (eR 98), some (eI (j : Int)), some (eI u), some (eI v)]) (st' := [eR 98, eI (p (3 * j + 0))]) rfl rfl rfl ?_
  refine w_s (np := 8) (lv' := [some (eR 98), some (eI (j : Int)), some (eI u), some (eI v)]) (st' := [eI (j : Int), eR 98, eI (p (3 * j + 0))]) rfl rfl rfl ?_
  refine w_s (np := 9) (lv' := [some (eR 98), some (eI (j : Int)), some (eI u), some (eI v)]) (st' := [eI (1), eI (j : Int), eR 98, eI (p (3 * j + 0))]) rfl rfl rfl ?_
  refine c_pt (np := 12) (k := 3 * j + 1) h rfl rfl rfl (by omega) (by omega) (by omega) (by omega) ?_
  refine w_s (np := 13) (lv' := [some (eR 98), some (eI (j : Int)), some (eI u), some (eI v)]) (st' := [eI u, eI (p (3 * j + 1)), eI (p (3 * j + 0))]) rfl rfl rfl ?_
  refine w_s (np := 14) (lv' := [some (eR 98), some (eI (j : Int)), some (eI u), some (eI v)]) (st' := [eI v, eI u, eI (p (3 * j + 1)), eI (p (3 * j + 0))]) rfl rfl rfl ?_
  refine c_sm (np := 17) rfl rfl rfl ?_
  intro g hg
  exact w_i0 (t1 := 40) (t2 := 20) rfl rfl rfl K1 K20
theorem h_hdC {fg : eG} {rc : eQ} {d : Nat} {f : eFr} {F : List eFr} {μ : eM} {n : Nat} {p κ : Nat → Int} {i j : Nat} (h : hM n p κ μ) (hi : i < n) (hj : j < n) (K : ∀ μ', hR n μ μ' → ex_q fg rc (d + 3, (f.1, f.2.1, f.2.2.1, f.2.2.2), F, μ')) : ex_q fg rc (d + 2, (242, 97, [some (eR 98), some (eI (i : Int)), some (eI (j : Int))], []), f :: F, μ) := by
  have hle := h.le
  have KN : ∀ μ', hR n μ μ' → ex_q fg rc (d + 2, (242, 133, [some (eR 98), some (eI (i : Int)), some (eI (j : Int))], []), f :: F, μ') := by
    intro μ' hm
    refine w_rt rfl rfl rfl ?_
    exact K μ' hm
  refine w_s (np := 98) (lv' := [some (eR 98), some (eI (i : Int)), some (eI (j : Int))]) (st' := [eR 98]) rfl rfl rfl ?_
  refine w_gf (np := 101) (v := eR 115) rfl rfl h.kd h.pv.2.2.2.2.2 ?_
  refine w_s (np := 102) (lv' := [some (eR 98), some (eI (i : Int)), some (eI (j : Int))]) (st' := [eI (i : Int), eR 115]) rfl rfl rfl ?_
  refine w_al (np := 103) (v := μ.1 115 i) rfl rfl (h_al (k := i) h.2.2.2.1.2.2.2.2 rfl (by omega)) ?_
  refine w_i0 (t1 := 133) (t2 := 106) rfl rfl rfl (KN μ (hR.r μ)) ?_
  refine w_s (np := 107) (lv' := [some (eR 98), some (eI (i : Int)), some (eI (j : Int))]) (st' := [eR 98]) rfl rfl rfl ?_
  refine w_s (np := 108) (lv' := [some (eR 98), some (eI (i : Int)), some (eI (j : Int))]) (st' := [eI (j : Int), eR 98]) rfl rfl rfl ?_
  refine w_s (np := 109) (lv' := [some (eR 98), some (eI (i : Int)), some (eI (j : Int))]) (st' := [eR 98, eI (j : Int), eR 98]) rfl rfl rfl ?_
  refine w_s (np := 110) (lv' := [some (eR 98), some (eI (i : Int)), some (eI (j : Int))]) (st' := [eI (i : Int), eR 98, eI (j : Int), eR 98]) rfl rfl rfl ?_
  refine w_s (np := 111) (lv' := [some (eR 98), some (eI (i : Int)), some (eI (j : Int))]) (st' := [eI (0), eI (i : Int), eR 98, eI (j : Int), eR 98]) rfl rfl rfl ?_
  refine c_pt (np := 114) (k := 3 * i + 0) h rfl rfl rfl (by omega) (by omega) (by omega) (by omega) ?_
  refine w_s (np := 115) (lv' := [some (eR 98), some (eI (i : Int)), some (eI (j : Int))]) (st' := [eR 98, eI (p (3 * i + 0)), eI (j : Int), eR 98]) rfl rfl rfl ?_
  refine w_s (np := 116) (lv' := [some (eR 98), some (eI (i : Int)), some (eI (j : Int))]) (st' := [eI (i : Int), eR 98, eI (p (3 * i + 0)), eI (j : Int), eR 98]) rfl rfl rfl ?_
  refine w_s (np := 117) (lv' := [some (eR 98), some (eI (i : Int)), some (eI (j : Int))]) (st' := [eI (2), eI (i : Int), eR 98, eI (p (3 * i + 0)), eI (j : Int), eR 98]) rfl rfl rfl ?_
  refine c_pt (np := 120) (k := 3 * i + 2) h rfl rfl rfl (by omega) (by omega) (by omega) (by omega) ?_
  refine c_hl (np := 123) h rfl rfl rfl hj ?_
  intro g hg
  refine w_i0 (t1 := 133) (t2 := 126) rfl rfl rfl (KN μ (hR.r μ)) ?_
  refine w_s (np := 127) (lv' := [some (eR 98), some (eI (i : Int)), some (eI (j : Int))]) (st' := [eR 98]) rfl rfl rfl ?_
  refine w_gf (np := 130) (v := eR 115) rfl rfl h.kd h.pv.2.2.2.2.2 ?_
  refine w_s (np := 131) (lv' := [some (eR 98), some (eI (i : Int)), some (eI (j : Int))]) (st' := [eI (i : Int), eR 115]) rfl rfl rfl ?_
  refine w_s (np := 132) (lv' := [some (eR 98), some (eI (i : Int)), some (eI (j : Int))]) (st' := [eI (j : Int), eI (i : Int), eR 115]) rfl rfl rfl ?_
  refine w_as (np := 133) rfl rfl (h_as (k := i) h.2.2.2.1.2.2.2.2 rfl (by omega)) ?_
  exact KN _ ((hR.r μ).up (by decide) hi ⟨by omega, by omega⟩)
theorem h_hdB {fg : eG} {rc : eQ} {d : Nat} {f : eFr} {F : List eFr} {μ : eM} {n : Nat} {p κ : Nat → Int} {i j : Nat} (h : hM n p κ μ) (hi : i < n) (hj : j < n) (K : ∀ μ', hR n μ μ' → ex_q fg rc (d + 3, (f.1, f.2.1, f.2.2.1, f.2.2.2), F, μ')) : ex_q fg rc (d + 2, (242, 61, [some (eR 98), some (eI (i : Int)), some (eI (j : Int))], []), f :: F, μ) := by
  have hle := h.le
  have KN : ∀ μ', hR n μ μ' → ex_q fg rc (d + 2, (242, 97, [some (eR 98), some (eI (i : Int)), some (eI (j : Int))], []), f :: F, μ') := fun μ' hm => h_hdC (h.t hm.t) hi hj fun μ2 h2 => K μ2 (hm.tr h2)
  refine w_s (np := 62) (lv' := [some (eR 98), some (eI (i : Int)), some (eI (j : Int))]) (st' := [eR 98]) rfl rfl rfl ?_
  refine w_gf (np := 65) (v := eR 114) rfl rfl h.kd h.pv.2.2.2.2.1 ?_
  refine w_s (np := 66) (lv' := [some (eR 98), some (eI (i : Int)), some (eI (j : Int))]) (st' := [eI (i : Int), eR 114]) rfl rfl rfl ?_
  refine w_al (np := 67) (v := μ.1 114 i) rfl rfl (h_al (k := i) h.2.2.2.1.2.2.2.1 rfl (by omega)) ?_
  refine w_i0 (t1 := 97) (t2 := 70) rfl rfl rfl (KN μ (hR.r μ)) ?_
  refine w_s (np := 71) (lv' := [some (eR 98), some (eI (i : Int)), some (eI (j : Int))]) (st' := [eR 98]) rfl rfl rfl ?_
  refine w_s (np := 72) (lv' := [some (eR 98), some (eI (i : Int)), some (eI (j : Int))]) (st' := [eI (j : Int), eR 98]) rfl rfl rfl ?_
  refine w_s (np := 73) (lv' := [some (eR 98), some (eI (i : Int)), some (eI (j : Int))]) (st' := [eR 98, eI (j : Int), eR 98]) rfl rfl rfl ?_
  refine w_s (np := 74) (lv' := [some (eR 98), some (eI (i : Int)), some (eI (j : Int))]) (st' := [eI (i : Int), eR 98, eI (j : Int), eR 98]) rfl rfl rfl ?_
  refine w_s (np := 75) (lv' := [some (eR 98), some (eI (i : Int)), some (eI (j : Int))]) (st' := [eI (0), eI (i : Int), eR 98, eI (j : Int), eR 98]) rfl rfl rfl ?_
  refine c_pt (np := 78) (k := 3 * i + 0) h rfl rfl rfl (by omega) (by omega) (by omega) (by omega) ?_
  refine w_s (np := 79) (lv' := [some (eR 98), some (eI (i : Int)), some (eI (j : Int))]) (st' := [eR 98, eI (p (3 * i + 0)), eI (j : Int), eR 98]) rfl rfl rfl ?_
  refine w_s (np := 80) (lv' := [some (eR 98), some (eI (i : Int)), some (eI (j : Int))]) (st' := [eI (i : Int), eR 98, eI (p (3 * i + 0)), eI (j : Int), eR 98]) rfl rfl rfl ?_
  refine w_s (np := 81) (lv' := [some (eR 98), some (eI (i : Int)), some (eI (j : Int))]) (st' := [eI (1), eI (i : Int), eR 98, eI (p (3 * i + 0)), eI (j : Int), eR 98]) rfl rfl rfl ?_
  refine c_pt (np := 84) (k := 3 * i + 1) h rfl rfl rfl (by omega) (by omega) (by omega) (by omega) ?_
  refine c_hl (np := 87) h rfl rfl rfl hj ?_
  intro g hg
  refine w_i0 (t1 := 97) (t2 := 90) rfl rfl rfl (KN μ (hR.r μ)) ?_
  refine w_s (np := 91) (lv' := [some (eR 98), some (eI (i : Int)), some (eI (j : Int))]) (st' := [eR 98]) rfl rfl rfl ?_
  refine w_gf (np := 94) (v := eR 114) rfl rfl h.kd h.pv.2.2.2.2.1 ?_
  refine w_s (np := 95) (lv' := [some (eR 98), some (eI (i : Int)), some (eI (j : Int))]) (st' := [eI (i : Int), eR 114]) rfl rfl rfl ?_
  refine w_s (np := 96) (lv' := [some (eR 98), some (eI (i : Int)), some (eI (j : Int))]) (st' := [eI (j : Int), eI (i : Int), eR 114]) rfl rfl rfl ?_
  refine w_as (np := 97) rfl rfl (h_as (k := i) h.2.2.2.1.2.2.2.1 rfl (by omega)) ?_
  exact KN _ ((hR.r μ).up (by decide) hi ⟨by omega, by omega⟩)
/-- the mate of a half among the first ones -/
def hC (p κ : Nat → Int) (i j : Nat) : Bool := decide (κ i = κ j) && (decide (p (3 * i + 1) = p (3 * j + 1)) && decide (p (3 * i + 2) = p (3 * j + 2)))
def h_nx (p κ : Nat → Int) (i j : Nat) (m : Int) : Int := if m < 0 ∧ hC p κ i j = true then (j : Int) else m
theorem h_hd {fg : eG} {rc : eQ} {d : Nat} {f : eFr} {F : List eFr} {μ : eM} {n : Nat} {p κ : Nat → Int} {i j : Nat} (h : hM n p κ μ) (hi : i < n) (hj : j < n) (hm : ev_w (μ.1 113 i) = μ.1 113 i) (K : ∀ μ', hT n μ μ' → (∀ k, k ≠ i → μ'.1 113 k = μ.1 113 k) → μ'.1 113 i = h_nx p κ i j (μ.1 113 i) → ex_q fg rc (d + 3, (f.1, f.2.1, f.2.2.1, f.2.2.2), F, μ')) : ex_q fg rc (d + 2, (242, 0, [some (eR 98), some (eI (i : Int)), some (eI (j : Int))], []), f :: F, μ) := by
  have hle := h.le
  have KN : h_nx p κ i j (μ.1 113 i) = μ.1 113 i → ex_q fg rc (d + 2, (242, 61, [some (eR 98), some (eI (i : Int)), some (eI (j : Int))], []), f :: F, μ) := fun e => h_hdB h hi hj fun μ' h2 => K μ' h2.t (fun k _ => by rw [h2.2.1 113 (by decide) (by decide)]) (by rw [h2.2.1 113 (by decide) (by decide), e])
  have eN : ¬ (μ.1 113 i < 0 ∧ hC p κ i j = true) → h_nx p κ i j (μ.1 113 i) = μ.1 113 i := fun q => if_neg q
  have wp := h.2.2.2.2.2.2.1
  have wk := h.2.2.2.2.2.2.2
  have hC3 : hC p κ i j = true → κ i = κ j ∧ p (3 * i + 1) = p (3 * j + 1) ∧ p (3 * i + 2) = p (3 * j + 2) := by
    intro q
    unfold hC at q
    rw [Bool.and_eq_true, Bool.and_eq_true] at q
    exact ⟨of_decide_eq_true q.1, of_decide_eq_true q.2.1, of_decide_eq_true q.2.2⟩
  have hq1 : ¬ p (3 * i + 1) = p (3 * j + 1) → hC p κ i j = true → False := fun q r => q (hC3 r).2.1
  have hq2 : ¬ p (3 * i + 2) = p (3 * j + 2) → hC p κ i j = true → False := fun q r => q (hC3 r).2.2
  refine w_s (np := 1) (lv' := [some (eR 98), some (eI (i : Int)), some (eI (j : Int))]) (st' := [eR 98]) rfl rfl rfl ?_
  refine w_gf (np := 4) (v := eR 113) rfl rfl h.kd h.pv.2.2.2.1 ?_
  refine w_s (np := 5) (lv' := [some (eR 98), some (eI (i : Int)), some (eI (j : Int))]) (st' := [eI (i : Int), eR 113]) rfl rfl rfl ?_
  refine w_al (np := 6) (v := μ.1 113 i) rfl rfl (h_al (k := i) h.2.2.2.1.2.2.1 rfl (by omega)) ?_
  refine w_ge0 (t1 := 61) (t2 := 9) rfl rfl rfl hm (fun q => KN (eN (fun r => by omega))) ?_
  intro q0
  refine w_s (np := 10) (lv' := [some (eR 98), some (eI (i : Int)), some (eI (j : Int))]) (st' := [eR 98]) rfl rfl rfl ?_
  refine w_gf (np := 13) (v := eR 102) rfl rfl h.kd h.pv.2.1 ?_
  refine w_s (np := 14) (lv' := [some (eR 98), some (eI (i : Int)), some (eI (j : Int))]) (st' := [eI (i : Int), eR 102]) rfl rfl rfl ?_
  refine w_al (np := 15) (v := κ i) rfl rfl (by rw [h_al (k := i) h.2.2.2.1.1 rfl (by omega), h.2.2.2.2.2.1 i hi]) ?_
  refine w_s (np := 16) (lv' := [some (eR 98), some (eI (i : Int)), some (eI (j : Int))]) (st' := [eR 98, eI (κ i)]) rfl rfl rfl ?_
  refine w_gf (np := 19) (v := eR 102) rfl rfl h.kd h.pv.2.1 ?_
  refine w_s (np := 20) (lv' := [some (eR 98), some (eI (i : Int)), some (eI (j : Int))]) (st' := [eI (j : Int), eR 102, eI (κ i)]) rfl rfl rfl ?_
  refine w_al (np := 21) (v := κ j) rfl rfl (by rw [h_al (k := j) h.2.2.2.1.1 rfl (by omega), h.2.2.2.2.2.1 j hj]) ?_
  refine w_ne (t1 := 61) (t2 := 24) rfl rfl rfl (wk _) (wk _) (fun q => KN (eN (fun r => q (hC3 r.2).1))) ?_
  intro q1
  refine w_s (np := 25) (lv' := [some (eR 98), some (eI (i : Int)), some (eI (j : Int))]) (st' := [eR 98]) rfl rfl rfl ?_
  refine w_s (np := 26) (lv' := [some (eR 98), some (eI (i : Int)), some (eI (j : Int))]) (st' := [eI (i : Int), eR 98]) rfl rfl rfl ?_
  refine w_s (np := 27) (lv' := [some (eR 98), some (eI (i : Int)), some (eI (j : Int))]) (st' := [eI (1), eI (i : Int), eR 98]) rfl rfl rfl ?_
  refine c_pt (np := 30) (k := 3 * i + 1) h rfl rfl rfl (by omega) (by omega) (by omega) (by omega) ?_
  refine w_s (np := 31) (lv' := [some (eR 98), some (eI (i : Int)), some (eI (j : Int))]) (st' := [eR 98, eI (p (3 * i + 1))]) rfl rfl rfl ?_
  refine w_s (np := 32) (lv' := [some (eR 98), some (eI (i : Int)), some (eI (j : Int))]) (st' := [eI (j : Int), eR 98, eI (p (3 * i + 1))]) rfl rfl rfl ?_
  refine w_s (np := 33) (lv' := [some (eR 98), some (eI (i : Int)), some (eI (j : Int))]) (st' := [eI (1), eI (j : Int), eR 98, eI (p (3 * i + 1))]) rfl rfl rfl ?_
  refine c_pt (np := 36) (k := 3 * j + 1) h rfl rfl rfl (by omega) (by omega) (by omega) (by omega) ?_
  refine w_ne (t1 := 61) (t2 := 39) rfl rfl rfl (wp _) (wp _) (fun q => KN (eN (fun r => hq1 q r.2))) ?_
  intro q2
  refine w_s (np := 40) (lv' := [some (eR 98), some (eI (i : Int)), some (eI (j : Int))]) (st' := [eR 98]) rfl rfl rfl ?_
  refine w_s (np := 41) (lv' := [some (eR 98), some (eI (i : Int)), some (eI (j : Int))]) (st' := [eI (i : Int), eR 98]) rfl rfl rfl ?_
  refine w_s (np := 42) (lv' := [some (eR 98), some (eI (i : Int)), some (eI (j : Int))]) (st' := [eI (2), eI (i : Int), eR 98]) rfl rfl rfl ?_
  refine c_pt (np := 45) (k := 3 * i + 2) h rfl rfl rfl (by omega) (by omega) (by omega) (by omega) ?_
  refine w_s (np := 46) (lv' := [some (eR 98), some (eI (i : Int)), some (eI (j : Int))]) (st' := [eR 98, eI (p (3 * i + 2))]) rfl rfl rfl ?_
  refine w_s (np := 47) (lv' := [some (eR 98), some (eI (i : Int)), some (eI (j : Int))]) (st' := [eI (j : Int), eR 98, eI (p (3 * i + 2))]) rfl rfl rfl ?_
  refine w_s (np := 48) (lv' := [some (eR 98), some (eI (i : Int)), some (eI (j : Int))]) (st' := [eI (2), eI (j : Int), eR 98, eI (p (3 * i + 2))]) rfl rfl rfl ?_
  refine c_pt (np := 51) (k := 3 * j + 2) h rfl rfl rfl (by omega) (by omega) (by omega) (by omega) ?_
  refine w_ne (t1 := 61) (t2 := 54) rfl rfl rfl (wp _) (wp _) (fun q => KN (eN (fun r => hq2 q r.2))) ?_
  intro q3
  refine w_s (np := 55) (lv' := [some (eR 98), some (eI (i : Int)), some (eI (j : Int))]) (st' := [eR 98]) rfl rfl rfl ?_
  refine w_gf (np := 58) (v := eR 113) rfl rfl h.kd h.pv.2.2.2.1 ?_
  refine w_s (np := 59) (lv' := [some (eR 98), some (eI (i : Int)), some (eI (j : Int))]) (st' := [eI (i : Int), eR 113]) rfl rfl rfl ?_
  refine w_s (np := 60) (lv' := [some (eR 98), some (eI (i : Int)), some (eI (j : Int))]) (st' := [eI (j : Int), eI (i : Int), eR 113]) rfl rfl rfl ?_
  refine w_as (np := 61) rfl rfl (h_as (k := i) h.2.2.2.1.2.2.1 rfl (by omega)) ?_
  have hT1 : hT n μ (ev_up μ.1 113 i (j : Int), μ.2) := (hT.r μ).up (by decide) hi ⟨by omega, by omega⟩
  have eY : h_nx p κ i j (μ.1 113 i) = (j : Int) := if_pos ⟨q0, by unfold hC; rw [decide_eq_true q1, decide_eq_true q2, decide_eq_true q3]; rfl⟩
  refine h_hdB (h.t hT1) hi hj fun μ' h2 => K μ' (hT1.tr h2.t) ?_ ?_
  · intro k hk
    rw [h2.2.1 113 (by decide) (by decide)]
    show ev_up μ.1 113 i (j : Int) 113 k = _
    rw [h_up_eq, if_neg hk]
  · rw [h2.2.1 113 (by decide) (by decide), eY]
    show ev_up μ.1 113 i (j : Int) 113 i = _
    rw [h_up_eq, if_pos rfl]
