/-! WHAT IS FINE: a state, with bounds of the script's ints, from which the law answers 1 -/
def fineL (L : Nat) (B : sB) (C : sSt) : Prop := ∀ (ρ : Nat → Int) (E : eSt), sb_in ρ B → ss_r ρ C E → ex_fine (dt_fg L ρ) 4096 1000000 E
/-- checkpoints by their places -/
def rl : List (Nat × Nat × sB × sSt) → Nat → Nat → Option sR
  | [], _, _ => none
  | e :: l, y, pc => if e.1 = y ∧ e.2.1 = pc then some (chk e.2.2.1 e.2.2.2) else rl l y pc
theorem rl_in : ∀ (l : List (Nat × Nat × sB × sSt)) (y pc : Nat) (r : sR), rl l y pc = some r → ∃ e ∈ l, r = chk e.2.2.1 e.2.2.2 := by
  intro l
  induction l with
  | nil =>
    intro y pc r h
    cases h
  | cons e l ih =>
    intro y pc r h
    unfold rl at h
    split at h
    · cases h
      exact ⟨e, List.mem_cons_self, rfl⟩
    · obtain ⟨e', h1, h2⟩ := ih y pc r h
      exact ⟨e', List.mem_cons_of_mem _ h1, h2⟩
theorem fine_rl {L : Nat} {sg : sG} {l : List (Nat × Nat × sB × sSt)} {n : Nat} {B : sB} {C : sSt} (hs : ∀ ρ : Nat → Int, sg_r ρ sg (dt_fg L ρ)) (hl : ∀ e ∈ l, fineL L e.2.2.1 e.2.2.2) (h : fv_ap (fv (rl l) (dt_g sg) sg 4096 1000000 n B) C = true) : fineL L B C := by
  intro ρ E hB hS
  refine fv_ok (hs ρ) (fun y pc r hr => ?_) (dt_g_ok (hs ρ)) n B C E h hB hS
  obtain ⟨e, h1, rfl⟩ := rl_in l y pc r hr
  exact chk_ok (fun E' h2 h3 => hl e h1 ρ E' h2 h3)
/-- ranges that cover one another's ends -/
def cov (lo hi : Int) : List (Int × Int) → Bool
  | [] => decide (hi < lo)
  | b :: l => decide (b.1 ≤ lo) && cov (b.2 + 1) hi l
theorem cov_ok {hi : Int} : ∀ (l : List (Int × Int)) (lo x : Int), cov lo hi l = true → lo ≤ x → x ≤ hi → ∃ b ∈ l, b.1 ≤ x ∧ x ≤ b.2 := by
  intro l
  induction l with
  | nil =>
    intro lo x h h1 h2
    have h := of_decide_eq_true (show decide (hi < lo) = true from h)
    omega
  | cons b l ih =>
    intro lo x h h1 h2
    have h : (decide (b.1 ≤ lo) && cov (b.2 + 1) hi l) = true := h
    rw [Bool.and_eq_true] at h
    have h3 := of_decide_eq_true h.1
    by_cases hx : x ≤ b.2
    · exact ⟨b, List.mem_cons_self, by omega, hx⟩
    · obtain ⟨c, h4, h5⟩ := ih (b.2 + 1) x h.2 (by omega) h2
      exact ⟨c, List.mem_cons_of_mem _ h4, h5⟩
theorem fine_split {L i : Nat} {B : sB} {C : sSt} {lo hi : Int} (l : List (Int × Int)) (hi' : B[i]? = some (lo, hi)) (hc : cov lo hi l = true) (h : ∀ b ∈ l, fineL L (B.set i b) C) : fineL L B C := by
  intro ρ E hB hS
  have hb := hB i _ hi'
  obtain ⟨b, h1, h2, h3⟩ := cov_ok l lo (ρ i) hc hb.1 hb.2
  exact h b h1 ρ E (sb_in_set hB h2 h3) hS
theorem dt_sg8 : ∀ ρ : Nat → Int, sg_r ρ (dt_sg 8) (dt_fg 8 ρ) := fun ρ => dt_sg_ok (by decide) ρ
def dt_sgC : sG := fun r => match r with
  | 1 => (0, 0, .leaf (.inl 0))
  | r => (dt_sk r, (dt_sv r).length, dt_sa r)
theorem dt_sgC_ok (L : Nat) (ρ : Nat → Int) : sg_r ρ dt_sgC (dt_fg L ρ) := by
  intro r hr h0
  by_cases h1 : r = 1
  · subst h1
    exact absurd rfl h0
  · have hs : dt_sgC r = (dt_sk r, (dt_sv r).length, dt_sa r) := by
      unfold dt_sgC
      split
      · exact absurd rfl h1
      · rfl
    have hf : dt_fg L ρ r = (dt_sk r, (dt_sv r).length, fun j => (dt_sv r).getD j 0) := by
      unfold dt_fg
      rw [if_neg h1]
    rw [hs, hf]
    refine ⟨rfl, rfl, fun j hj => ?_⟩
    show sn_r ρ ((dt_sa r).get j) ((dt_sv r).getD j 0)
    rw [dt_sa_ok r hr j hj]
    rfl
/-- the run out of a start that is fine -/
theorem dt_run2 {L : Nat} (h : fineL L dt_B0 dt_S0) (xs : Nat → Int32) : ∃ (n : Nat) (μ' : eM), ev (dt_fg L (fun j => (xs j).toInt)) n 40 0 0 (ev_en 4 [eR 1]) [] dt_M0 = some (some (eI 1), μ') ∧ μ'.2.1.length ≤ 600000 ∧ μ'.2.2 ≤ 7302250 := by
  have hlo : lo_r (fun j => (xs j).toInt) [some (.inl (eR 1)), none, none, none] (ev_en 4 [eR 1]) := by
    refine ⟨rfl, fun i => ?_⟩
    match i with
    | 0 => exact (rfl : eR 1 = eR 1)
    | 1 => exact True.intro
    | 2 => exact True.intro
    | 3 => exact True.intro
    | i + 4 => exact True.intro
  have hS : ss_r (fun j => (xs j).toInt) dt_S0 (40, (0, 0, ev_en 4 [eR 1], []), [], dt_M0) := ⟨rfl, ⟨rfl, rfl, hlo, True.intro⟩, True.intro, rfl, rfl, Nat.zero_le _, True.intro, fun j hj => absurd hj (Nat.not_lt_zero j)⟩
  obtain ⟨m, μ', h1, h2, h3⟩ := h _ _ (dt_B0_in xs) hS
  obtain ⟨m2, r, μ1, h4, h5, -⟩ := ex_ev m _ _ h1
  have e1 := h5 rfl
  cases e1
  exact ⟨m2, μ', h4, Nat.le_trans h2 (by decide), Nat.le_trans h3 (by decide)⟩
