/-! THE REFERENCE: the loops of lays over holds, over slot -/
/-- a half's mate behind so many others, from one on -/
def h_it (p κ : Nat → Int) (i : Nat) : Nat → Nat → Int → Int
  | 0, _, m => m
  | t + 1, j, m => h_it p κ i t (j + 1) (if j = i then m else h_nx p κ i j m)
theorem h_nx_in {p κ : Nat → Int} {i j : Nat} {m : Int} (h : -1 ≤ m ∧ m < 1000) (hj : j < 890) : -1 ≤ h_nx p κ i j m ∧ h_nx p κ i j m < 1000 := by
  unfold h_nx
  split <;> omega
theorem h_in {fg : eG} {rc : eQ} {d n : Nat} {p κ : Nat → Int} {s l : Int} {F : List eFr} {i : Nat} (hi : i < n) : ∀ (t j : Nat) (μ : eM), j + t = n → hM n p κ μ → -1 ≤ μ.1 113 i ∧ μ.1 113 i < 1000 → (∀ μ', hT n μ μ' → (∀ k, k ≠ i → μ'.1 113 k = μ.1 113 k) → μ'.1 113 i = h_it p κ i t j (μ.1 113 i) → ex_q fg rc (d + 3, (239, 257, [some (eR 98), some (eI s), some (eI l), some (eI (i : Int)), some (eI (n : Int))], []), F, μ')) → ex_q fg rc (d + 3, (239, 229, [some (eR 98), some (eI s), some (eI l), some (eI (i : Int)), some (eI (j : Int))], []), F, μ) := by
  intro t
  induction t with
  | zero =>
    intro j μ hj h hm K
    have hle := h.le
    refine w_s (np := 231) (lv' := [some (eR 98), some (eI s), some (eI l), some (eI (i : Int)), some (eI (j : Int))]) (st' := [eI (j : Int)]) rfl rfl rfl ?_
    refine w_s (np := 232) (lv' := [some (eR 98), some (eI s), some (eI l), some (eI (i : Int)), some (eI (j : Int))]) (st' := [eR 98, eI (j : Int)]) rfl rfl rfl ?_
    refine w_gf (np := 235) (v := eI (n : Int)) rfl rfl h.kd h.pv.1 ?_
    refine w_ge (t1 := 257) (t2 := 238) rfl rfl rfl (ev_w_in (by omega) (by omega)) (ev_w_in (by omega) (by omega)) ?_ (fun q => by omega)
    intro _
    have e : j = n := by omega
    subst e
    exact K μ (hT.r μ) (fun _ _ => rfl) rfl
  | succ t ih =>
    intro j μ hj h hm K
    have hle := h.le
    refine w_s (np := 231) (lv' := [some (eR 98), some (eI s), some (eI l), some (eI (i : Int)), some (eI (j : Int))]) (st' := [eI (j : Int)]) rfl rfl rfl ?_
    refine w_s (np := 232) (lv' := [some (eR 98), some (eI s), some (eI l), some (eI (i : Int)), some (eI (j : Int))]) (st' := [eR 98, eI (j : Int)]) rfl rfl rfl ?_
    refine w_gf (np := 235) (v := eI (n : Int)) rfl rfl h.kd h.pv.1 ?_
    refine w_ge (t1 := 257) (t2 := 238) rfl rfl rfl (ev_w_in (by omega) (by omega)) (ev_w_in (by omega) (by omega)) (fun q => by omega) ?_
    intro _
    refine w_s (np := 239) (lv' := [some (eR 98), some (eI s), some (eI l), some (eI (i : Int)), some (eI (j : Int))]) (st' := [eI (i : Int)]) rfl rfl rfl ?_
    refine w_s (np := 241) (lv' := [some (eR 98), some (eI s), some (eI l), some (eI (i : Int)), some (eI (j : Int))]) (st' := [eI (j : Int), eI (i : Int)]) rfl rfl rfl ?_
    have on : ∀ μ1, hT n μ μ1 → (∀ k, k ≠ i → μ1.1 113 k = μ.1 113 k) → μ1.1 113 i = (if j = i then μ.1 113 i else h_nx p κ i j (μ.1 113 i)) → ex_q fg rc (d + 3, (239, 251, [some (eR 98), some (eI s), some (eI l), some (eI (i : Int)), some (eI (j : Int))], []), F, μ1) := by
      intro μ1 g1 g2 g3
      have hm1 : -1 ≤ μ1.1 113 i ∧ μ1.1 113 i < 1000 := by
        rw [g3]
        split
        · exact hm
        · exact h_nx_in hm (by omega)
      have hw : ev_w ((j : Int) + 1) = ((j : Int) + 1) := ev_w_in (by omega) (by omega)
      refine w_s (np := 254) (lv' := [some (eR 98), some (eI s), some (eI l), some (eI (i : Int)), some (eI ((j : Int) + 1))]) (st' := []) rfl (congrArg (fun q : Int => (some ([some (eR 98), some (eI s), some (eI l), some (eI (i : Int)), some (eI q)], []) : Option (List (Option eV) × List eV))) hw) rfl ?_
      clear hw
      refine w_go (t1 := 229) rfl rfl ?_
      refine ih (j + 1) μ1 (by omega) (h.t g1) hm1 ?_
      intro μ' k1 k2 k3
      refine K μ' (g1.tr k1) (fun k hk => by rw [k2 k hk, g2 k hk]) ?_
      rw [k3, g3]
      rfl
    refine w_eq (t1 := 251) (t2 := 244) rfl rfl rfl (ev_w_in (by omega) (by omega)) (ev_w_in (by omega) (by omega)) ?_ ?_
    · intro q
      have q : j = i := by omega
      exact on μ (hT.r μ) (fun _ _ => rfl) (by rw [if_pos q])
    · intro q
      have q : ¬ j = i := fun r => q (by rw [r])
      refine w_s (np := 245) (lv' := [some (eR 98), some (eI s), some (eI l), some (eI (i : Int)), some (eI (j : Int))]) (st' := [eR 98]) rfl rfl rfl ?_
      refine w_s (np := 246) (lv' := [some (eR 98), some (eI s), some (eI l), some (eI (i : Int)), some (eI (j : Int))]) (st' := [eI (i : Int), eR 98]) rfl rfl rfl ?_
      refine w_s (np := 248) (lv' := [some (eR 98), some (eI s), some (eI l), some (eI (i : Int)), some (eI (j : Int))]) (st' := [eI (j : Int), eI (i : Int), eR 98]) rfl rfl rfl ?_
      refine w_cv (d := d + 2) (np := 251) (as := [eI (i : Int), eI (j : Int)]) (lv' := [some (eR 98), some (eI (i : Int)), some (eI (j : Int))]) rfl rfl rfl (by simp only [List.length_cons]; omega) rfl rfl rfl h.kd rfl ?_
      refine h_hd h hi (by omega) (ev_w_in (by omega) (by omega)) ?_
      intro μ1 g1 g2 g3
      exact on μ1 g1 g2 (by rw [if_neg q]; exact g3)
theorem h_out {fg : eG} {rc : eQ} {d n : Nat} {p κ : Nat → Int} {s l : Int} {F : List eFr} : ∀ (t i : Nat) (μ : eM) (x : Option eV), i + t = n → hM n p κ μ → (∀ k, i ≤ k → k < n → μ.1 113 k = -1) → (∀ (μ' : eM) (x : Option eV), hT n μ μ' → (∀ k, k < i → μ'.1 113 k = μ.1 113 k) → (∀ k, i ≤ k → k < n → μ'.1 113 k = h_it p κ k n 0 (-1)) → (∀ k, n ≤ k → μ'.1 113 k = μ.1 113 k) → ex_q fg rc (d + 3, (239, 263, [some (eR 98), some (eI s), some (eI l), some (eI (n : Int)), x], []), F, μ')) → ex_q fg rc (d + 3, (239, 218, [some (eR 98), some (eI s), some (eI l), some (eI (i : Int)), x], []), F, μ) := by
  intro t
  induction t with
  | zero =>
    intro i μ x hj h hm K
    have hle := h.le
    refine w_s (np := 219) (lv' := [some (eR 98), some (eI s), some (eI l), some (eI (i : Int)), x]) (st' := [eI (i : Int)]) rfl rfl rfl ?_
    refine w_s (np := 220) (lv' := [some (eR 98), some (eI s), some (eI l), some (eI (i : Int)), x]) (st' := [eR 98, eI (i : Int)]) rfl rfl rfl ?_
    refine w_gf (np := 223) (v := eI (n : Int)) rfl rfl h.kd h.pv.1 ?_
    refine w_ge (t1 := 263) (t2 := 226) rfl rfl rfl (ev_w_in (by omega) (by omega)) (ev_w_in (by omega) (by omega)) ?_ (fun q => by omega)
    intro _
    have e : i = n := by omega
    subst e
    exact K μ x (hT.r μ) (fun _ _ => rfl) (fun k h1 h2 => by omega) (fun _ _ => rfl)
  | succ t ih =>
    intro i μ x hj h hm K
    have hle := h.le
    refine w_s (np := 219) (lv' := [some (eR 98), some (eI s), some (eI l), some (eI (i : Int)), x]) (st' := [eI (i : Int)]) rfl rfl rfl ?_
    refine w_s (np := 220) (lv' := [some (eR 98), some (eI s), some (eI l), some (eI (i : Int)), x]) (st' := [eR 98, eI (i : Int)]) rfl rfl rfl ?_
    refine w_gf (np := 223) (v := eI (n : Int)) rfl rfl h.kd h.pv.1 ?_
    refine w_ge (t1 := 263) (t2 := 226) rfl rfl rfl (ev_w_in (by omega) (by omega)) (ev_w_in (by omega) (by omega)) (fun q => by omega) ?_
    intro _
    refine w_s (np := 227) (lv' := [some (eR 98), some (eI s), some (eI l), some (eI (i : Int)), x]) (st' := [eI (0)]) rfl rfl rfl ?_
    refine w_s (np := 229) (lv' := [some (eR 98), some (eI s), some (eI l), some (eI (i : Int)), some (eI (0))]) (st' := []) rfl rfl rfl ?_
    have hi := hm i (Nat.le_refl i) (by omega)
    refine h_in (by omega) n 0 μ (by omega) h (by rw [hi]; omega) ?_
    intro μ1 g1 g2 g3
    rw [hi] at g3
    have hw : ev_w ((i : Int) + 1) = ((i : Int) + 1) := ev_w_in (by omega) (by omega)
    refine w_s (np := 260) (lv' := [some (eR 98), some (eI s), some (eI l), some (eI ((i : Int) + 1)), some (eI (n : Int))]) (st' := []) rfl (congrArg (fun q : Int => (some ([some (eR 98), some (eI s), some (eI l), some (eI q), some (eI (n : Int))], []) : Option (List (Option eV) × List eV))) hw) rfl ?_
    clear hw
    refine w_go (t1 := 218) rfl rfl ?_
    refine ih (i + 1) μ1 _ (by omega) (h.t g1) (fun k h1 h2 => by rw [g2 k (by omega)]; exact hm k (by omega) h2) ?_
    intro μ' x' k1 k2 k3 k4
    refine K μ' x' (g1.tr k1) (fun k hk => by rw [k2 k (by omega), g2 k (by omega)]) ?_ (fun k hk => by rw [k4 k hk, g2 k (by omega)])
    intro k h1 h2
    by_cases hk : k = i
    · subst hk
      rw [k2 k (by omega), g3]
    · exact k3 k (by omega) h2
theorem h_sl {fg : eG} {rc : eQ} {d : Nat} {s l : Int} {x : Option eV} {F : List eFr} : ∀ (t k : Nat) (μ : eM), k + t = 8192 → ev_kd μ 98 = some 11 → μ.1 98 21 = 109 → h_ar μ 109 8192 → (∀ μ' : eM, μ'.2 = μ.2 → (∀ q, q ≠ 109 → μ'.1 q = μ.1 q) → (∀ j, j < k → μ'.1 109 j = μ.1 109 j) → (∀ j, k ≤ j → j < 8192 → μ'.1 109 j = -1) → (∀ j, 8192 ≤ j → μ'.1 109 j = μ.1 109 j) → ex_q fg rc (d, (239, 75, [some (eR 98), some (eI s), some (eI l), some (eI 8192), x], []), F, μ')) → ex_q fg rc (d, (239, 55, [some (eR 98), some (eI s), some (eI l), some (eI (k : Int)), x], []), F, μ) := by
  intro t
  induction t with
  | zero =>
    intro k μ hk hd hv ha K
    refine w_s (np := 56) (lv' := [some (eR 98), some (eI s), some (eI l), some (eI (k : Int)), x]) (st' := [eI (k : Int)]) rfl rfl rfl ?_
    refine w_s (np := 59) (lv' := [some (eR 98), some (eI s), some (eI l), some (eI (k : Int)), x]) (st' := [eI (8192), eI (k : Int)]) rfl rfl rfl ?_
    refine w_ge (t1 := 75) (t2 := 62) rfl rfl rfl (ev_w_in (by omega) (by omega)) (ev_w_in (by omega) (by omega)) ?_ (fun q => by omega)
    intro _
    have e : k = 8192 := by omega
    subst e
    exact K μ rfl (fun _ _ => rfl) (fun _ _ => rfl) (fun j h1 h2 => by omega) (fun _ _ => rfl)
  | succ t ih =>
    intro k μ hk hd hv ha K
    have hpv : ev_pv 3 (μ.1 98 21) = eR 109 := by rw [hv]; rfl
    refine w_s (np := 56) (lv' := [some (eR 98), some (eI s), some (eI l), some (eI (k : Int)), x]) (st' := [eI (k : Int)]) rfl rfl rfl ?_
    refine w_s (np := 59) (lv' := [some (eR 98), some (eI s), some (eI l), some (eI (k : Int)), x]) (st' := [eI (8192), eI (k : Int)]) rfl rfl rfl ?_
    refine w_ge (t1 := 75) (t2 := 62) rfl rfl rfl (ev_w_in (by omega) (by omega)) (ev_w_in (by omega) (by omega)) (fun q => by omega) ?_
    intro _
    refine w_s (np := 63) (lv' := [some (eR 98), some (eI s), some (eI l), some (eI (k : Int)), x]) (st' := [eR 98]) rfl rfl rfl ?_
    refine w_gf (np := 66) (v := eR 109) rfl rfl hd hpv ?_
    refine w_s (np := 67) (lv' := [some (eR 98), some (eI s), some (eI l), some (eI (k : Int)), x]) (st' := [eI (k : Int), eR 109]) rfl rfl rfl ?_
    refine w_s (np := 68) (lv' := [some (eR 98), some (eI s), some (eI l), some (eI (k : Int)), x]) (st' := [eI (-1), eI (k : Int), eR 109]) rfl rfl rfl ?_
    refine w_as (np := 69) rfl rfl (h_as (k := k) ha rfl (by omega)) ?_
    have hw : ev_w ((k : Int) + 1) = ((k : Int) + 1) := ev_w_in (by omega) (by omega)
    refine w_s (np := 72) (lv' := [some (eR 98), some (eI s), some (eI l), some (eI ((k : Int) + 1)), x]) (st' := []) rfl (congrArg (fun q : Int => (some ([some (eR 98), some (eI s), some (eI l), some (eI q), x], []) : Option (List (Option eV) × List eV))) hw) rfl ?_
    clear hw
    refine w_go (t1 := 55) rfl rfl ?_
    have e : ∀ q, q ≠ 109 → ev_up μ.1 109 k (-1) q = μ.1 q := fun q hq => h_up_ne hq
    refine ih (k + 1) (ev_up μ.1 109 k (-1), μ.2) (by omega) hd (by show ev_up μ.1 109 k (-1) 98 21 = 109; rw [e 98 (by decide)]; exact hv) (ha.t rfl) ?_
    intro μ' g1 g2 g3 g4 g5
    refine K μ' g1 (fun q hq => by rw [g2 q hq]; exact e q hq) ?_ ?_ ?_
    · intro j hj
      rw [g3 j (by omega)]
      show ev_up μ.1 109 k (-1) 109 j = _
      rw [h_up_eq, if_neg (by omega)]
    · intro j h1 h2
      by_cases hj : j = k
      · subst hj
        rw [g3 j (by omega)]
        show ev_up μ.1 109 j (-1) 109 j = _
        rw [h_up_eq, if_pos rfl]
      · exact g4 j (by omega) h2
    · intro j hj
      rw [g5 j hj]
      show ev_up μ.1 109 k (-1) 109 j = _
      rw [h_up_eq, if_neg (by omega)]
