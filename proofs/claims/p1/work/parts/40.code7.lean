/-! THE CODED EVALUATOR: calls and answers -/
theorem cd_cons {L c : Nat} (hc : c < nW) : cd (L * nW + c) 0 = c ∧ ∀ k, cd (L * nW + c) (k + 1) = cd L k := by
  have hW : 0 < nW := by decide
  have e2 : (L * nW + c) / nW = L := by rw [Nat.mul_comm, Nat.mul_add_div hW, Nat.div_eq_of_lt hc, Nat.add_zero]
  refine ⟨?_, fun k => ?_⟩
  · unfold cd
    rw [Nat.pow_zero, Nat.div_one, Nat.mul_comm, Nat.mul_add_mod, Nat.mod_eq_of_lt hc]
  · unfold cd
    rw [Nat.pow_succ, Nat.mul_comm (nW ^ k) nW, ← Nat.div_div_eq_div_mul, e2]
theorem nL_cons {ρ : Nat → Int} {L c : Nat} {lv : List (Option eV)} {x : Option eV} (h : nL ρ L lv) (hc : c < nW) (hx : c % 8 = 4 ∨ ∃ e, x = some e ∧ cr ρ c e) : nL ρ (L * nW + c) (x :: lv) := by
  obtain ⟨h1, h2⟩ := cd_cons (L := L) hc
  intro k hk
  cases k with
  | zero =>
    rw [h1]
    rcases hx with q | ⟨e, rfl, q⟩
    · exact Or.inl q
    · exact Or.inr ⟨e, rfl, q⟩
  | succ k =>
    rw [h2]
    rw [List.length_cons] at hk
    rcases h k (by omega) with q | ⟨e, q1, q2⟩
    · exact Or.inl q
    · exact Or.inr ⟨e, by rw [List.getElem?_cons_succ]; exact q1, q2⟩
def n_pad : Nat → Nat
  | 0 => 0
  | m + 1 => n_pad m * nW + 4
theorem n_pad_ok {ρ : Nat → Int} (m : Nat) : nL ρ (n_pad m) (List.replicate m none) := by
  induction m with
  | zero =>
    intro k hk
    exact absurd hk (Nat.not_lt_zero k)
  | succ m ih =>
    rw [List.replicate_succ]
    exact nL_cons ih (by decide) (Or.inl rfl)
theorem ev_sl1_snoc (xs : List eV) (v : eV) : ev_sl1 (xs ++ [v]) = ev_sl1 xs ++ (if ev_cat v = 2 then [some v, none] else [some v]) := by
  unfold ev_sl1
  rw [List.flatMap_append]
  congr 1
  rw [List.flatMap_cons, List.flatMap_nil, List.append_nil]
noncomputable def ncp (z : Bool) (K : Nat → Nat → Nat → Bool) (t : Nat) : Nat → Nat → Nat → Bool := @Nat.rec (fun _ => Nat → Nat → Nat → Bool) K (fun _ ih S acc c => @Bool.rec (fun _ => Bool) (f_if z (n_c1 (Nat.mod S nW)) (ih (Nat.div S nW) (Nat.add (Nat.mul acc nW) (Nat.mod S nW)) (Nat.succ c))) (ih (Nat.div S nW) (Nat.add (Nat.mul (Nat.add (Nat.mul acc nW) 4) nW) (Nat.mod S nW)) (Nat.succ (Nat.succ c))) (n_t1 (Nat.mod S nW))) t
theorem ncp_ok {ρ : Nat → Int} {K : Nat → Nat → Nat → Bool} : ∀ (t S acc c : Nat) (st : List eV) (l : List (Option eV)), nS ρ S st → nL ρ acc l → ncp false K t S acc c = true → t ≤ st.length ∧ ∃ S' acc', nS ρ S' (st.drop t) ∧ nL ρ acc' (ev_sl1 (st.take t).reverse ++ l) ∧ K S' acc' (c + (ev_sl1 (st.take t).reverse).length) = true := by
  intro t
  induction t with
  | zero =>
    intro S acc c st l hS hL h
    exact ⟨Nat.zero_le _, S, acc, hS, hL, h⟩
  | succ t ih =>
    intro S acc c st l hS hL h
    have h : @Bool.rec (fun _ => Bool) (f_if false (n_c1 (S % nW)) (ncp false K t (S / nW) (acc * nW + S % nW) (Nat.succ c))) (ncp false K t (S / nW) ((acc * nW + 4) * nW + S % nW) (Nat.succ (Nat.succ c))) (n_t1 (S % nW)) = true := h
    cases hq : n_t1 (S % nW) with
    | false =>
      rw [hq] at h
      obtain ⟨h1, h2⟩ := f_if_ok h
      obtain ⟨e, r, rfl, h4, h5⟩ := hS.pop (n_c1_4 h1)
      obtain ⟨g1, S', acc', g2, g3, g4⟩ := ih _ _ _ r (some e :: l) h5 (nL_cons hL (n_lt _) (Or.inr ⟨e, rfl, h4⟩)) h2
      rw [List.take_succ_cons, List.reverse_cons, ev_sl1_snoc, List.drop_succ_cons, List.length_cons]
      rw [if_neg (by rw [n_c1_ok h1 h4]; decide), List.append_assoc, List.length_append]
      refine ⟨by omega, S', acc', g2, g3, ?_⟩
      rw [show c + ((ev_sl1 (r.take t).reverse).length + [some e].length) = Nat.succ c + (ev_sl1 (r.take t).reverse).length by simp only [List.length_cons, List.length_nil]; omega]
      exact g4
    | true =>
      rw [hq] at h
      obtain ⟨e, r, rfl, h4, h5⟩ := hS.pop (n_t1_4 hq)
      obtain ⟨w, rfl⟩ := n_t1_ok hq h4
      obtain ⟨g1, S', acc', g2, g3, g4⟩ := ih _ _ _ r (some (eJ w) :: none :: l) h5 (nL_cons (nL_cons hL (by decide) (Or.inl rfl)) (n_lt _) (Or.inr ⟨_, rfl, h4⟩)) h
      rw [List.take_succ_cons, List.reverse_cons, ev_sl1_snoc, List.drop_succ_cons, List.length_cons]
      rw [if_pos (show ev_cat (eJ w) = 2 from rfl), List.append_assoc, List.length_append]
      refine ⟨by omega, S', acc', g2, g3, ?_⟩
      rw [show c + ((ev_sl1 (r.take t).reverse).length + [some (eJ w), none].length) = Nat.succ (Nat.succ c) + (ev_sl1 (r.take t).reverse).length by simp only [List.length_cons, List.length_nil]; omega]
      exact g4
theorem nS_4 {ρ : Nat → Int} {st : List eV} (h : nS ρ 4 st) : st = [] := by
  cases st with
  | nil => rfl
  | cons e l => exact absurd h.1 (fun q => cr_4 (by decide) q)
theorem nS_len {ρ : Nat → Int} : ∀ (st : List eV) (S : Nat), nS ρ S st → 4 * nW ^ st.length ≤ S := by
  intro st
  induction st with
  | nil =>
    intro S h
    have h : S = 4 := h
    rw [h]
    decide
  | cons e l ih =>
    intro S h
    have h1 := ih _ h.2
    have h2 : nW * (S / nW) ≤ S := Nat.mul_div_le S nW
    have h3 : nW * (4 * nW ^ l.length) ≤ nW * (S / nW) := Nat.mul_le_mul_left nW h1
    rw [List.length_cons, Nat.pow_succ]
    have e1 : 4 * (nW ^ l.length * nW) = nW * (4 * nW ^ l.length) := by
      rw [Nat.mul_comm (nW ^ l.length) nW, ← Nat.mul_assoc, Nat.mul_comm 4 nW, Nat.mul_assoc]
    rw [e1]
    exact Nat.le_trans h3 h2
theorem ev_cat_le (e : eV) : ev_cat e ≤ 2 := by
  rcases e with (x | x) | ((x | x) | x) <;> exact Nat.le_of_ble_eq_true rfl
theorem ev_sum_le (st : List eV) : (st.map ev_cat).sum ≤ 2 * st.length := by
  induction st with
  | nil => exact Nat.le_refl _
  | cons e l ih =>
    rw [List.map_cons, List.sum_cons, List.length_cons]
    have := ev_cat_le e
    omega
/-- how many places the stack takes; 100, if it is too long to be looked at -/
noncomputable def n_cat (k : Nat) : Nat → Nat := @Nat.rec (fun _ => Nat → Nat) (fun _ => 100) (fun _ ih S => @Bool.rec (fun _ => Nat) (Nat.add (@Bool.rec (fun _ => Nat) 1 2 (n_t1 (Nat.mod S nW))) (ih (Nat.div S nW))) 0 (Nat.beq S 4)) k
theorem n_cat_ok {ρ : Nat → Int} : ∀ (k S : Nat) (st : List eV), nS ρ S st → n_cat k S ≤ 8 → (st.map ev_cat).sum ≤ n_cat k S := by
  intro k
  induction k with
  | zero =>
    intro S st _ h
    have h : 100 ≤ 8 := h
    omega
  | succ k ih =>
    intro S st hS h
    have e : n_cat (k + 1) S = @Bool.rec (fun _ => Nat) (Nat.add (@Bool.rec (fun _ => Nat) 1 2 (n_t1 (S % nW))) (n_cat k (S / nW))) 0 (Nat.beq S 4) := rfl
    rw [e] at h ⊢
    cases h4 : Nat.beq S 4 with
    | true =>
      have h4 := Nat.eq_of_beq_eq_true h4
      subst h4
      rw [nS_4 hS]
      exact Nat.zero_le _
    | false =>
      rw [h4] at h
      have h4 := Nat.ne_of_beq_eq_false h4
      cases st with
      | nil => exact absurd hS h4
      | cons v l =>
        have h : (@Bool.rec (fun _ => Nat) 1 2 (n_t1 (S % nW)) : Nat) + n_cat k (S / nW) ≤ 8 := h
        show ((v :: l).map ev_cat).sum ≤ (@Bool.rec (fun _ => Nat) 1 2 (n_t1 (S % nW)) : Nat) + n_cat k (S / nW)
        have h5 := ih _ l hS.2 (by omega)
        have h6 : ev_cat v ≤ (@Bool.rec (fun _ => Nat) 1 2 (n_t1 (S % nW)) : Nat) := by
          cases hq : n_t1 (S % nW) with
          | true => exact ev_cat_le v
          | false => exact Nat.le_of_eq (cr_cat hq hS.1)
        rw [List.map_cons, List.sum_cons]
        omega
noncomputable def n_sm (S : Nat) : Bool := @Bool.rec (fun _ => Bool) (Nat.ble (n_cat 9 S) 8) true (Nat.ble (Nat.succ S) 9394170331095332911557922387157348109502730195633279482829163886128836100458433773854795993539074812127739904)
theorem n_sm_ok {ρ : Nat → Int} {S : Nat} {st : List eV} (h : n_sm S = true) (hS : nS ρ S st) : (st.map ev_cat).sum ≤ 8 := by
  unfold n_sm at h
  cases hb : Nat.ble (Nat.succ S) 9394170331095332911557922387157348109502730195633279482829163886128836100458433773854795993539074812127739904 with
  | false =>
    rw [hb] at h
    have h1 : n_cat 9 S ≤ 8 := Nat.ble_eq.mp h
    exact Nat.le_trans (n_cat_ok 9 S st hS h1) h1
  | true =>
    have h1 : S + 1 ≤ 9394170331095332911557922387157348109502730195633279482829163886128836100458433773854795993539074812127739904 := Nat.ble_eq.mp hb
    have h2 := nS_len st S hS
    have h3 := ev_sum_le st
    by_cases h4 : st.length ≤ 4
    · omega
    · exfalso
      have h5 : nW ^ 5 ≤ nW ^ st.length := Nat.pow_le_pow_right (by decide) (by omega)
      have h6 : 9394170331095332911557922387157348109502730195633279482829163886128836100458433773854795993539074812127739904 ≤ 4 * nW ^ 5 := by decide +kernel
      omega
/-- a step into a method -/
noncomputable def n_go (z : Bool) (Q : nK) (b y np acc d L S : Nat) (F : List nF) (M : nM) : Bool := f_if z (n_sm S) (@Nat.rec (fun _ => Bool) z (fun d' _ => Q d' b 0 acc 4 ((y, np, L, S) :: F) M) d)
theorem n_go_ok {Q : nK} {b y np acc d L S : Nat} {F : List nF} {M : nM} (h : n_go false Q b y np acc d L S F M = true) : n_sm S = true ∧ 0 < d ∧ Q (d - 1) b 0 acc 4 ((y, np, L, S) :: F) M = true := by
  obtain ⟨h1, h⟩ := f_if_ok h
  cases d with
  | zero => exact f_none h
  | succ d => exact ⟨h1, Nat.succ_pos _, h⟩
def nq_ok (i : Instr) (a b t y pc : Nat) (f : nC) : Prop := ∀ (ρ : Nat → Int) (d L S : Nat) (F : List nF) (M : nM) (Q : nK) (st : List eV) (μ : eM), nS ρ S st → nmem ρ M μ → f d L S F M Q false = true → ∃ as rs L' S', ev_cl2 μ i a b t st = some (as, rs) ∧ 0 < d ∧ nL ρ L' (ev_en (dt_mx b) as) ∧ nS ρ S' rs ∧ Q (d - 1) b 0 L' 4 ((y, pc + 3, L, S') :: F) M = true
noncomputable def nq_s (b t x pad y np : Nat) : nC := fun d L S F M Q z => ncp z (fun S' acc c => f_if z (Nat.beq c x) (n_go z Q b y np acc d L S' F M)) t S pad 0
theorem nq_s_ok {idx b t x y pc : Nat} (hx : x ≤ dt_mx b) : nq_ok (.invokestatic idx) 2 b t y pc (nq_s b t x (n_pad (dt_mx b - x)) y (pc + 3)) := by
  intro ρ d L S F M Q st μ hS hm h
  obtain ⟨h1, S', acc', h2, h3, h⟩ := ncp_ok t S _ 0 st _ hS (n_pad_ok _) h
  obtain ⟨h4, h⟩ := f_if_ok h
  have h4 := Nat.eq_of_beq_eq_true h4
  rw [Nat.zero_add] at h4
  obtain ⟨h5, h6, h7⟩ := n_go_ok h
  refine ⟨(st.take t).reverse, st.drop t, acc', S', ?_, h6, ?_, h2, h7⟩
  · unfold ev_cl2
    rw [if_pos h1]
    dsimp only
    rw [if_pos ⟨rfl, n_sm_ok h5 h2, by rw [h4]; exact hx⟩]
  · unfold ev_en
    rw [h4]
    exact h3
theorem cr_R2 {ρ : Nat → Int} {c : Nat} (h : c % 8 = 2) : cr ρ c (eR (c / 8)) := by
  unfold cr
  rw [h]
  rfl
theorem ev_sl1_ref (ob : Nat) (as : List eV) : ev_sl1 (eR ob :: as) = some (eR ob) :: ev_sl1 as := by
  rw [ev_sl1_cons]
  rfl
noncomputable def nq_v (b t x pad cl y np : Nat) : nC := fun d L S F M Q z => ncp z (fun S' acc c => f_if z (Nat.beq (Nat.succ c) x) (f_if z (Nat.beq (Nat.mod (Nat.mod S' nW) 8) 2) (n_in z M (Nat.div (Nat.mod S' nW) 8) (f_if z (Nat.beq (n_get M.1 (Nat.sub (Nat.div (Nat.mod S' nW) 8) 64)).1 cl) (n_go z Q b y np (Nat.add (Nat.mul acc nW) (Nat.mod S' nW)) d L (Nat.div S' nW) F M))))) t S pad 0
theorem nq_v_ok {idx b t x y pc : Nat} (hx : x ≤ dt_mx b) : nq_ok (.invokevirtual idx) 0 b t y pc (nq_v b t x (n_pad (dt_mx b - x)) (dt_pl b).2.2.2.2.2.2.2 y (pc + 3)) := by
  intro ρ d L S F M Q st μ hS hm h
  obtain ⟨h1, S', acc', h2, h3, h⟩ := ncp_ok t S _ 0 st _ hS (n_pad_ok _) h
  obtain ⟨h4, h⟩ := f_if_ok h
  have h4 := Nat.eq_of_beq_eq_true h4
  rw [Nat.zero_add] at h4
  have h4 : (ev_sl1 (st.take t).reverse).length + 1 = x := h4
  obtain ⟨h8, h⟩ := f_if_ok h
  have h8 : S' % nW % 8 = 2 := Nat.eq_of_beq_eq_true h8
  obtain ⟨r, hr, h9⟩ := n_ref h2 h8
  obtain ⟨g2, g3, h⟩ := n_in_ok h
  have g2 : S' % nW / 8 = S' % nW / 8 - 64 + 64 := g2
  have g3 : S' % nW / 8 - 64 < M.2.1 := g3
  obtain ⟨g4, h⟩ := f_if_ok h
  have g4 : (n_get M.1 (S' % nW / 8 - 64)).1 = (dt_pl b).2.2.2.2.2.2.2 := Nat.eq_of_beq_eq_true g4
  obtain ⟨h5, h6, h7⟩ := n_go_ok h
  refine ⟨eR (S' % nW / 8) :: (st.take t).reverse, r, _, _, ?_, h6, ?_, h9, h7⟩
  · unfold ev_cl2
    rw [if_pos h1]
    dsimp only
    rw [hr]
    dsimp only
    rw [if_pos ⟨rfl, n_sm_ok h5 h9, by rw [ev_sl1_ref, List.length_cons, h4]; exact hx, by rw [hm.kd g2 g3, g4]⟩]
  · unfold ev_en
    rw [ev_sl1_ref, List.length_cons, h4]
    exact nL_cons h3 (n_lt _) (Or.inr ⟨_, rfl, cr_R2 h8⟩)
noncomputable def nq_i (b t x pad y np : Nat) : nC := fun d L S F M Q z => ncp z (fun S' acc c => f_if z (Nat.beq (Nat.succ c) x) (f_if z (Nat.beq (Nat.mod (Nat.mod S' nW) 8) 2) (f_if z (Nat.ble 64 (Nat.div (Nat.mod S' nW) 8)) (n_go z Q b y np (Nat.add (Nat.mul acc nW) (Nat.mod S' nW)) d L (Nat.div S' nW) F M)))) t S pad 0
theorem nq_i_ok {idx b t x y pc : Nat} (hx : x ≤ dt_mx b) : nq_ok (.invokespecial idx) 1 b t y pc (nq_i b t x (n_pad (dt_mx b - x)) y (pc + 3)) := by
  intro ρ d L S F M Q st μ hS hm h
  obtain ⟨h1, S', acc', h2, h3, h⟩ := ncp_ok t S _ 0 st _ hS (n_pad_ok _) h
  obtain ⟨h4, h⟩ := f_if_ok h
  have h4 := Nat.eq_of_beq_eq_true h4
  rw [Nat.zero_add] at h4
  have h4 : (ev_sl1 (st.take t).reverse).length + 1 = x := h4
  obtain ⟨h8, h⟩ := f_if_ok h
  have h8 : S' % nW % 8 = 2 := Nat.eq_of_beq_eq_true h8
  obtain ⟨r, hr, h9⟩ := n_ref h2 h8
  obtain ⟨g4, h⟩ := f_if_ok h
  have g4 : 64 ≤ S' % nW / 8 := Nat.ble_eq.mp g4
  obtain ⟨h5, h6, h7⟩ := n_go_ok h
  refine ⟨eR (S' % nW / 8) :: (st.take t).reverse, r, _, _, ?_, h6, ?_, h9, h7⟩
  · unfold ev_cl2
    rw [if_pos h1]
    dsimp only
    rw [hr]
    dsimp only
    rw [if_pos ⟨rfl, n_sm_ok h5 h9, by rw [ev_sl1_ref, List.length_cons, h4]; exact hx, g4⟩]
  · unfold ev_en
    rw [ev_sl1_ref, List.length_cons, h4]
    exact nL_cons h3 (n_lt _) (Or.inr ⟨_, rfl, cr_R2 h8⟩)
noncomputable def nq_o (y np : Nat) : nC := fun d L S F M Q z => f_if z (Nat.beq (Nat.mod (Nat.mod S nW) 8) 2) (f_if z (Nat.ble 10 (Nat.mod S nW)) (f_if z (Nat.ble 1 d) (f_if z (n_sm (Nat.div S nW)) (Q d y np L (Nat.div S nW) F M))))
theorem nq_o_ok {ρ : Nat → Int} {idx y np d L S : Nat} {F : List nF} {M : nM} {Q : nK} {st : List eV} {μ : eM} (hS : nS ρ S st) (h : nq_o y np d L S F M Q false = true) : ∃ s S', ev_o d (.invokespecial idx) 10 st μ = some (s, μ) ∧ nS ρ S' s ∧ Q d y np L S' F M = true := by
  obtain ⟨h1, h⟩ := f_if_ok h
  obtain ⟨h2, h⟩ := f_if_ok h
  obtain ⟨h3, h⟩ := f_if_ok h
  obtain ⟨h4, h⟩ := f_if_ok h
  have h1 : S % nW % 8 = 2 := Nat.eq_of_beq_eq_true h1
  have h2 : 10 ≤ S % nW := Nat.ble_eq.mp h2
  obtain ⟨r, rfl, h5⟩ := n_ref hS h1
  refine ⟨r, _, ?_, h5, h⟩
  show (if 10 = 10 ∧ 0 < d ∧ 0 < S % nW / 8 ∧ (r.map ev_cat).sum ≤ 8 then some (r, μ) else none) = _
  rw [if_pos ⟨rfl, Nat.ble_eq.mp h3, by omega, n_sm_ok h4 h5⟩]
/-! answers -/
noncomputable def nr_0 : nC := fun d _ S F M Q z => f_if z (Nat.beq S 4) (@List.rec nF (fun _ => Bool) z (fun f fs _ => @Prod.rec Nat (Nat × Nat × Nat) (fun _ => Bool) (fun y f1 => @Prod.rec Nat (Nat × Nat) (fun _ => Bool) (fun pc f2 => @Prod.rec Nat Nat (fun _ => Bool) (fun l s => Q (Nat.succ d) y pc l s fs M) f2) f1) f) F)
noncomputable def nr_1 (t : Nat → Bool) : nC := fun d _ S F M Q z => f_if z (Nat.beq (Nat.div S nW) 4) (f_if z (t (Nat.mod S nW)) (@List.rec nF (fun _ => Bool) z (fun f fs _ => @Prod.rec Nat (Nat × Nat × Nat) (fun _ => Bool) (fun y f1 => @Prod.rec Nat (Nat × Nat) (fun _ => Bool) (fun pc f2 => @Prod.rec Nat Nat (fun _ => Bool) (fun l s => Q (Nat.succ d) y pc l (Nat.add (Nat.mul s nW) (Nat.mod S nW)) fs M) f2) f1) f) F))
theorem nr_0_ok {ρ : Nat → Int} {y d L S : Nat} {F : List nF} {M : nM} {Q : nK} {st : List eV} (h0 : (dt_pl y).2.1 = 0) (hS : nS ρ S st) (h : nr_0 d L S F M Q false = true) : ∃ f fs, ev_rt y .return_ st = some none ∧ F = f :: fs ∧ Q (d + 1) f.1 f.2.1 f.2.2.1 f.2.2.2 fs M = true := by
  obtain ⟨h1, h⟩ := f_if_ok h
  have h1 := Nat.eq_of_beq_eq_true h1
  subst h1
  have e1 := nS_4 hS
  subst e1
  cases F with
  | nil => exact f_none h
  | cons f fs => exact ⟨f, fs, by show (if (dt_pl y).2.1 = 0 then some none else none) = _; rw [if_pos h0], rfl, h⟩
theorem nr_1_ok {ρ : Nat → Int} {y d L S : Nat} {i : Instr} {F : List nF} {M : nM} {Q : nK} {st : List eV} {t : Nat → Bool} (ht : ∀ c, t c = true → c % 8 ≠ 4) (hi : ∀ (c : Nat) (e : eV), t c = true → cr ρ c e → ev_rt y i [e] = some (some e)) (hS : nS ρ S st) (h : nr_1 t d L S F M Q false = true) : ∃ e f fs S', ev_rt y i st = some (some e) ∧ F = f :: fs ∧ (∀ l, nS ρ f.2.2.2 l → nS ρ S' (e :: l)) ∧ Q (d + 1) f.1 f.2.1 f.2.2.1 S' fs M = true := by
  obtain ⟨h1, h⟩ := f_if_ok h
  obtain ⟨h2, h⟩ := f_if_ok h
  have h1 : S / nW = 4 := Nat.eq_of_beq_eq_true h1
  obtain ⟨e, r, rfl, h4, h5⟩ := hS.pop (ht _ h2)
  rw [h1] at h5
  have e1 := nS_4 h5
  subst e1
  cases F with
  | nil => exact f_none h
  | cons f fs => exact ⟨e, f, fs, _, hi _ e h2 h4, rfl, fun l hl => hl.push (n_lt _) h4, h⟩
noncomputable def n_z (c : Nat) : Bool := @Bool.rec (fun _ => Bool) (Nat.beq c 8) true (Nat.beq c 0)
theorem n_z_ok {c : Nat} (h : n_z c = true) : c = 0 ∨ c = 8 := by
  unfold n_z at h
  cases hz : Nat.beq c 0 with
  | true => exact Or.inl (Nat.eq_of_beq_eq_true hz)
  | false =>
    rw [hz] at h
    exact Or.inr (Nat.eq_of_beq_eq_true h)
noncomputable def n_r (c : Nat) : Bool := Nat.beq (Nat.mod c 8) 2
theorem nr_i1 {ρ : Nat → Int} {y : Nat} (h0 : (dt_pl y).2.1 = 1) (c : Nat) (e : eV) (h : n_t0 c = true) (hc : cr ρ c e) : ev_rt y .ireturn [e] = some (some e) := by
  obtain ⟨z, rfl⟩ := n_t0_ok h hc
  show (if (dt_pl y).2.1 = 1 ∨ ((dt_pl y).2.1 = 2 ∧ (ev_w z = 0 ∨ ev_w z = 1)) then some (some (eI z)) else none) = _
  rw [if_pos (Or.inl h0)]
theorem nr_i2 {ρ : Nat → Int} {y : Nat} (h0 : (dt_pl y).2.1 = 2) (c : Nat) (e : eV) (h : n_z c = true) (hc : cr ρ c e) : ev_rt y .ireturn [e] = some (some e) := by
  have h8 : c % 8 = 0 := by rcases n_z_ok h with q | q <;> rw [q]
  obtain ⟨h5, rfl⟩ := cr_0 h8 hc
  have hs : ev_w (sg32 (c / 8)) = 0 ∨ ev_w (sg32 (c / 8)) = 1 := by
    rw [sg32_w _ h5]
    rcases n_z_ok h with q | q <;> rw [q]
    · exact Or.inl rfl
    · exact Or.inr rfl
  show (if (dt_pl y).2.1 = 1 ∨ ((dt_pl y).2.1 = 2 ∧ (ev_w (sg32 (c / 8)) = 0 ∨ ev_w (sg32 (c / 8)) = 1)) then some (some (eI (sg32 (c / 8)))) else none) = _
  rw [if_pos (Or.inr ⟨h0, hs⟩)]
theorem nr_j {ρ : Nat → Int} {y : Nat} (h0 : (dt_pl y).2.1 = 3) (c : Nat) (e : eV) (h : n_t1 c = true) (hc : cr ρ c e) : ev_rt y .lreturn [e] = some (some e) := by
  obtain ⟨z, rfl⟩ := n_t1_ok h hc
  show (if (dt_pl y).2.1 = 3 then some (some (eJ z)) else none) = _
  rw [if_pos h0]
theorem nr_a {ρ : Nat → Int} {y : Nat} (h0 : (dt_pl y).2.1 = 5) (c : Nat) (e : eV) (h : n_r c = true) (hc : cr ρ c e) : ev_rt y .areturn [e] = some (some e) := by
  have h1 : c % 8 = 2 := Nat.eq_of_beq_eq_true h
  have e1 := cr_2 h1 hc
  subst e1
  show (if (dt_pl y).2.1 = 5 then some (some (eR (c / 8))) else none) = _
  rw [if_pos h0]
