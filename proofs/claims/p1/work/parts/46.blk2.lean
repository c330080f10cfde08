/-! BLOCKS: entries and the numbers that they are packed in -/
theorem fb_in {b K : Bool} (h1 : b = true) (h2 : K = true) : f_if false b K = true := by
  rw [h1]
  exact h2
theorem bq_t {p q : Nat} (h : p = q) : Nat.beq p q = true := by
  rw [h]
  exact Nat.beq_refl q
theorem bl_t {p q : Nat} (h : p ≤ q) : Nat.ble p q = true := Nat.ble_eq.mpr h
theorem bq_ne {p q : Nat} (h : Nat.beq p q = false) : p ≠ q := by
  intro e
  rw [bq_t e] at h
  cases h
theorem n_8f {c p : Nat} (h : c % 8 = p) : n_t0 c = Nat.beq ((169 >>> p) % 2) 1 ∧ n_t1 c = Nat.beq ((66 >>> p) % 2) 1 ∧ n_c1 c = Nat.beq ((173 >>> p) % 2) 1 := by
  subst h
  exact ⟨rfl, rfl, rfl⟩
def be (e : bE) : Prop := e.2 < nW ∧ (e.1 ≤ 5 ∨ e.1 = 9) ∧ (e.1 = 0 → e.2 % 8 = 0) ∧ (e.1 = 1 → e.2 % 8 = 1) ∧ (e.1 = 2 → e.2 % 8 = 2 ∧ 10 ≤ e.2) ∧ (e.1 = 3 → e.2 % 8 = 2) ∧ (e.1 = 4 → e.2 = 4) ∧ (e.1 = 5 → e.2 % 8 = 2 ∧ 10 ≤ e.2 ∧ e.2 / 8 < 64)
theorem be_0 {c : Nat} (h : c < nW) (h1 : c % 8 = 0) : be (0, c) := ⟨h, by simp, fun _ => h1, by simp, by simp, by simp, by simp, by simp⟩
theorem be_1 {c : Nat} (h : c < nW) (h1 : c % 8 = 1) : be (1, c) := ⟨h, by simp, by simp, fun _ => h1, by simp, by simp, by simp, by simp⟩
theorem be_2 {c : Nat} (h : c < nW) (h1 : c % 8 = 2) (h2 : 10 ≤ c) : be (2, c) := ⟨h, by simp, by simp, by simp, fun _ => ⟨h1, h2⟩, by simp, by simp, by simp⟩
theorem be_3 {c : Nat} (h : c < nW) (h1 : c % 8 = 2) : be (3, c) := ⟨h, by simp, by simp, by simp, by simp, fun _ => h1, by simp, by simp⟩
theorem be_4 : be (4, 4) := ⟨by decide, by simp, by simp, by simp, by simp, by simp, fun _ => rfl, by simp⟩
theorem be_5 {c : Nat} (h : c < nW) (h1 : c % 8 = 2) (h2 : 10 ≤ c) (h3 : c / 8 < 64) : be (5, c) := ⟨h, by simp, by simp, by simp, by simp, by simp, by simp, fun _ => ⟨h1, h2, h3⟩⟩
theorem be_9 {c : Nat} (h : c < nW) : be (9, c) := ⟨h, by simp, by simp, by simp, by simp, by simp, by simp, by simp⟩
theorem b_I_ok {e : bE} {K : Nat → Bool} (he : be e) (h : b_I false e K = true) : e.2 % 8 = 0 ∧ K e.2 = true := by
  obtain ⟨m, c⟩ := e
  rcases b_if_t h with ⟨h1, h⟩ | ⟨-, h⟩
  · exact ⟨he.2.2.1 (Nat.eq_of_beq_eq_true h1), h⟩
  · rcases b_if_t h with ⟨-, h⟩ | ⟨-, h⟩
    · obtain ⟨h1, h⟩ := f_if_ok h
      exact ⟨Nat.eq_of_beq_eq_true h1, h⟩
    · cases h
theorem b_J_ok {e : bE} {K : Nat → Bool} (he : be e) (h : b_J false e K = true) : e.2 % 8 = 1 ∧ K e.2 = true := by
  obtain ⟨m, c⟩ := e
  rcases b_if_t h with ⟨h1, h⟩ | ⟨-, h⟩
  · exact ⟨he.2.2.2.1 (Nat.eq_of_beq_eq_true h1), h⟩
  · rcases b_if_t h with ⟨-, h⟩ | ⟨-, h⟩
    · obtain ⟨h1, h⟩ := f_if_ok h
      exact ⟨Nat.eq_of_beq_eq_true h1, h⟩
    · cases h
theorem b_A_ok {e : bE} {K : Nat → Bool} (he : be e) (h : b_A false e K = true) : e.2 % 8 = 2 ∧ K e.2 = true := by
  obtain ⟨m, c⟩ := e
  rcases b_if_t h with ⟨h1, h⟩ | ⟨-, h⟩
  · exact ⟨(he.2.2.2.2.1 (Nat.eq_of_beq_eq_true h1)).1, h⟩
  · rcases b_if_t h with ⟨h1, h⟩ | ⟨-, h⟩
    · exact ⟨he.2.2.2.2.2.1 (Nat.eq_of_beq_eq_true h1), h⟩
    · rcases b_if_t h with ⟨-, h⟩ | ⟨-, h⟩
      · obtain ⟨h1, h⟩ := f_if_ok h
        exact ⟨Nat.eq_of_beq_eq_true h1, h⟩
      · cases h
theorem b_N_ok {e : bE} {K : Nat → Nat → Bool} (he : be e) (h : b_N false e K = true) : e.2 % 8 = 2 ∧ 10 ≤ e.2 ∧ ∃ m, be (m, e.2) ∧ K m e.2 = true := by
  obtain ⟨m, c⟩ := e
  rcases b_if_t h with ⟨h1, h⟩ | ⟨-, h⟩
  · obtain ⟨q1, q2⟩ := he.2.2.2.2.1 (Nat.eq_of_beq_eq_true h1)
    exact ⟨q1, q2, 2, be_2 he.1 q1 q2, h⟩
  · rcases b_if_t h with ⟨h1, h⟩ | ⟨-, h⟩
    · obtain ⟨q1, q2, q3⟩ := he.2.2.2.2.2.2.2 (Nat.eq_of_beq_eq_true h1)
      exact ⟨q1, q2, 5, be_5 he.1 q1 q2 q3, h⟩
    · rcases b_if_t h with ⟨h1, h⟩ | ⟨-, h⟩
      · obtain ⟨h2, h⟩ := f_if_ok h
        have q1 := he.2.2.2.2.2.1 (Nat.eq_of_beq_eq_true h1)
        have q2 := Nat.ble_eq.mp h2
        exact ⟨q1, q2, 2, be_2 he.1 q1 q2, h⟩
      · rcases b_if_t h with ⟨-, h⟩ | ⟨-, h⟩
        · obtain ⟨h1, h⟩ := f_if_ok h
          obtain ⟨h2, h⟩ := f_if_ok h
          have q1 : c % 8 = 2 := Nat.eq_of_beq_eq_true h1
          have q2 := Nat.ble_eq.mp h2
          exact ⟨q1, q2, 2, be_2 he.1 q1 q2, h⟩
        · cases h
theorem b_1_ok {e : bE} {K : Bool} (he : be e) (h : b_1 false e K = true) : n_c1 e.2 = true ∧ n_t1 e.2 = false ∧ K = true := by
  obtain ⟨m, c⟩ := e
  rcases b_if_t h with ⟨-, h⟩ | ⟨g1, h⟩
  · cases h
  · rcases b_if_t h with ⟨-, h⟩ | ⟨g4, h⟩
    · cases h
    · rcases b_if_t h with ⟨-, h⟩ | ⟨g9, h⟩
      · obtain ⟨h1, h⟩ := f_if_ok h
        refine ⟨h1, ?_, h⟩
        rcases n_8 c with q | q | q | q | q | q | q | q <;> obtain ⟨-, q1, q2⟩ := n_8f q <;> rw [q2] at h1 <;> rw [q1] <;> first | rfl | (exfalso; revert h1; decide)
      · have k1 := bq_ne g1
        have k4 := bq_ne g4
        have k9 := bq_ne g9
        have q : c % 8 = 0 ∨ c % 8 = 2 := by
          obtain ⟨-, a0, a1, -, a3, a4, -, a6⟩ := he
          dsimp only at a0 a1 a3 a4 a6
          have : m = 0 ∨ m = 2 ∨ m = 3 ∨ m = 5 := by omega
          rcases this with r | r | r | r
          · exact Or.inl (a1 r)
          · exact Or.inr (a3 r).1
          · exact Or.inr (a4 r)
          · exact Or.inr (a6 r).1
        rcases q with q | q <;> obtain ⟨-, q1, q2⟩ := n_8f q <;> exact ⟨by rw [q2]; rfl, by rw [q1]; rfl, h⟩
/-! locals -/
def bow (L : Nat) (ov : bO) : Prop := ∀ (k : Nat) (x : Nat × Nat × Nat), bo_at ov k = some x → be x.2 ∧ (x.1 = 0 → x.2.2 = cd L k)
theorem bow_nil (L : Nat) : bow L [] := by
  intro k x h
  rw [bo_nil] at h
  cases h
def bv (o : Option (Nat × Nat × Nat)) (v : Nat) : Nat := match o with
  | some x => if x.1 = 0 then v else x.2.2
  | none => v
theorem cd_pk : ∀ (ov : bO) (L j : Nat), (∀ k x, bo_at ov k = some x → x.2.2 < nW) → ∀ k, cd (pk_L L j ov) k = if k < j then cd L k else bv (bo_at ov (k - j)) (cd L k) := by
  intro ov
  induction ov with
  | nil =>
    intro L j _ k
    rw [bo_nil]
    show cd L k = if k < j then cd L k else cd L k
    split <;> rfl
  | cons x r ih =>
    intro L j hx k
    have hr : ∀ k x, bo_at r k = some x → x.2.2 < nW := fun k x h => hx (k + 1) x h
    obtain ⟨L', e1, e2⟩ : ∃ L', pk_L L j (x :: r) = pk_L L' (j + 1) r ∧ ∀ k, cd L' k = if k = j then bv x (cd L k) else cd L k := by
      cases x with
      | none =>
        refine ⟨L, rfl, fun k => ?_⟩
        show cd L k = if k = j then cd L k else cd L k
        split <;> rfl
      | some x =>
        obtain ⟨w, m, c⟩ := x
        cases w with
        | zero =>
          refine ⟨L, rfl, fun k => ?_⟩
          show cd L k = if k = j then cd L k else cd L k
          split <;> rfl
        | succ w =>
          have hc : c < nW := hx 0 _ rfl
          refine ⟨n_set L (nW ^ j) c, rfl, fun k => ?_⟩
          rw [cd_n_set hc]
          rfl
    rw [e1, ih L' (j + 1) hr, e2]
    by_cases h1 : k < j
    · rw [if_pos (by omega), if_neg (by omega), if_pos h1]
    · rw [if_neg h1]
      by_cases h2 : k = j
      · subst h2
        rw [if_pos (by omega), if_pos rfl, Nat.sub_self]
        rfl
      · rw [if_neg (by omega), if_neg h2]
        obtain ⟨m, rfl⟩ : ∃ m, k = j + 1 + m := ⟨k - j - 1, by omega⟩
        rw [show j + 1 + m - (j + 1) = m by omega, show j + 1 + m - j = m + 1 by omega]
        rfl
theorem bow.lt {L : Nat} {ov : bO} (h : bow L ov) : ∀ k x, bo_at ov k = some x → x.2.2 < nW := fun k x hx => (h k x hx).1.1
theorem cd_pk0 {L : Nat} {ov : bO} (h : bow L ov) (k : Nat) : cd (pk_L L 0 ov) k = (b_loc L ov k).2 := by
  rw [cd_pk ov L 0 h.lt, if_neg (Nat.not_lt_zero k), Nat.sub_zero]
  unfold b_loc
  cases hq : bo_at ov k with
  | none => rfl
  | some x =>
    show (if x.1 = 0 then cd L k else x.2.2) = x.2.2
    split
    · rename_i h0
      exact ((h k x hq).2 h0).symm
    · rfl
theorem b_loc_be {L : Nat} {ov : bO} (h : bow L ov) (k : Nat) : be (b_loc L ov k) := by
  unfold b_loc
  cases hq : bo_at ov k with
  | none => exact be_9 (n_lt _)
  | some x => exact (h k x hq).1
theorem cd_succ (A k : Nat) : cd A (k + 1) = cd (A / nW) k := by
  unfold cd
  rw [Nat.pow_succ, Nat.mul_comm (nW ^ k) nW, ← Nat.div_div_eq_div_mul]
theorem nl_ext0 : ∀ (n A B : Nat), A ≤ n → B ≤ n → (∀ k, cd A k = cd B k) → A = B := by
  intro n
  induction n with
  | zero =>
    intro A B h1 h2 _
    omega
  | succ n ih =>
    intro A B h1 h2 h
    have hd : ∀ C : Nat, C ≤ n + 1 → C / nW ≤ n := by
      intro C hC
      cases C with
      | zero => rw [Nat.zero_div]; exact Nat.zero_le n
      | succ C =>
        have : (C + 1) / nW < C + 1 := Nat.div_lt_self (Nat.succ_pos C) (show 1 < nW by decide)
        omega
    have e1 := ih (A / nW) (B / nW) (hd A h1) (hd B h2) (fun k => by rw [← cd_succ, ← cd_succ]; exact h (k + 1))
    have e2 := h 0
    unfold cd at e2
    rw [Nat.pow_zero, Nat.div_one, Nat.div_one] at e2
    rw [← Nat.div_add_mod A nW, ← Nat.div_add_mod B nW, e1, e2]
theorem nl_ext {A B : Nat} (h : ∀ k, cd A k = cd B k) : A = B := nl_ext0 (max A B) A B (Nat.le_max_left _ _) (Nat.le_max_right _ _) h
theorem bow_set {L : Nat} {ov : bO} (h : bow L ov) {k w m c : Nat} (hc : be (m, c)) (hw : w = 0 → c = cd L k) : bow L (bo_set ov k (w, m, c)) := by
  intro j x hx
  rw [bo_at_set] at hx
  split at hx
  · rename_i hj
    cases hx
    exact ⟨hc, fun q => by rw [hj]; exact hw q⟩
  · exact h j x hx
theorem pk_set {L : Nat} {ov : bO} (h : bow L ov) {k m c : Nat} (hc : be (m, c)) : pk_L L 0 (bo_set ov k (1, m, c)) = n_set (pk_L L 0 ov) (nW ^ k) c := by
  refine nl_ext fun j => ?_
  rw [cd_n_set hc.1, cd_pk _ L 0 (bow_set h hc (fun q => by cases q)).lt, cd_pk _ L 0 h.lt, if_neg (Nat.not_lt_zero j), if_neg (Nat.not_lt_zero j), Nat.sub_zero, bo_at_set]
  split <;> rfl
theorem bow_mk {L : Nat} {ov : bO} (h : bow L ov) {k m c : Nat} (hc : be (m, c)) (hv : c = (b_loc L ov k).2) : bow L (b_mk ov k m c) := by
  unfold b_mk
  refine bow_set h hc ?_
  unfold b_loc at hv
  cases hq : bo_at ov k with
  | none =>
    rw [hq] at hv
    exact fun _ => hv
  | some x =>
    rw [hq] at hv
    exact fun q => hv.trans ((h k x hq).2 q)
theorem pk_mk {L : Nat} {ov : bO} (h : bow L ov) {k m c : Nat} (hc : be (m, c)) (hv : c = (b_loc L ov k).2) : pk_L L 0 (b_mk ov k m c) = pk_L L 0 ov := by
  refine nl_ext fun j => ?_
  rw [cd_pk _ L 0 (bow_mk h hc hv).lt, cd_pk _ L 0 h.lt, if_neg (Nat.not_lt_zero j), if_neg (Nat.not_lt_zero j), Nat.sub_zero]
  unfold b_mk
  rw [bo_at_set]
  split
  · rename_i hj
    subst hj
    unfold b_loc at hv
    cases hq : bo_at ov j with
    | none => rfl
    | some x =>
      rw [hq] at hv
      show (if x.1 = 0 then cd L j else c) = (if x.1 = 0 then cd L j else x.2.2)
      have hv : c = x.2.2 := hv
      rw [hv]
  · rfl
theorem b_pr_ok {L : Nat} {ov : bO} (h : bow L ov) {k : Nat} {K : Bool} (hp : b_pr false L ov k K = true) : n_pr k (pk_L L 0 ov) = true ∧ K = true := by
  cases k with
  | zero => exact ⟨rfl, hp⟩
  | succ j =>
    have e := cd_pk0 h j
    have hb := b_loc_be h j
    have hp : @Prod.rec Nat Nat (fun _ => Bool) (fun m c => b_if (Nat.beq m 1) false (b_if (Nat.beq m 9) (b_if (n_t1 c) false K) K)) (b_loc L ov j) = true := hp
    have key : n_t1 (b_loc L ov j).2 = false ∧ K = true := by
      generalize b_loc L ov j = x at hp hb
      obtain ⟨m, c⟩ := x
      rcases b_if_t hp with ⟨-, hp⟩ | ⟨g1, hp⟩
      · cases hp
      · rcases b_if_t hp with ⟨-, hp⟩ | ⟨g9, hp⟩
        · rcases b_if_t hp with ⟨-, hp⟩ | ⟨g, hp⟩
          · cases hp
          · exact ⟨g, hp⟩
        · refine ⟨?_, hp⟩
          have k1 := bq_ne g1
          have k9 := bq_ne g9
          obtain ⟨-, a0, a1, -, a3, a4, a5, a6⟩ := hb
          dsimp only at a0 a1 a3 a4 a5 a6 ⊢
          have : m = 0 ∨ m = 2 ∨ m = 3 ∨ m = 4 ∨ m = 5 := by omega
          rcases this with r | r | r | r | r
          · rw [(n_8f (a1 r)).2.1]; rfl
          · rw [(n_8f (a3 r).1).2.1]; rfl
          · rw [(n_8f (a4 r)).2.1]; rfl
          · rw [a5 r]; rfl
          · rw [(n_8f (a6 r).1).2.1]; rfl
    refine ⟨?_, key.2⟩
    show @Bool.rec (fun _ => Bool) true false (n_t1 (cd (pk_L L 0 ov) j)) = true
    rw [e, key.1]
/-! stacks -/
theorem pk_pop {S : Nat} {ss : List bE} {K : bE → Nat → List bE → Bool} (hs : ∀ e ∈ ss, be e) (h : b_pop S ss K = true) : ∃ e S' ss', be e ∧ (∀ e ∈ ss', be e) ∧ Nat.mod (pk_S S ss) nW = e.2 ∧ Nat.div (pk_S S ss) nW = pk_S S' ss' ∧ K e S' ss' = true := by
  cases ss with
  | nil => exact ⟨(9, Nat.mod S nW), Nat.div S nW, [], be_9 (n_lt _), fun e q => (by cases q), rfl, rfl, h⟩
  | cons e r =>
    have he := hs e List.mem_cons_self
    have hW : 0 < nW := by decide
    refine ⟨e, S, r, he, fun q hq => hs q (List.mem_cons_of_mem _ hq), ?_, ?_, h⟩
    · show (pk_S S r * nW + e.2) % nW = e.2
      rw [Nat.mul_comm, Nat.mul_add_mod, Nat.mod_eq_of_lt he.1]
    · show (pk_S S r * nW + e.2) / nW = pk_S S r
      rw [Nat.mul_comm, Nat.mul_add_div hW, Nat.div_eq_of_lt he.1, Nat.add_zero]
def bwf (d L : Nat) (ov : bO) (ss : List bE) (I : List bF) : Prop := (∀ e ∈ ss, be e) ∧ bow L ov ∧ (∀ f ∈ I, (∀ e ∈ f.2.2.2.2.2, be e) ∧ bow f.2.2.1 f.2.2.2.1) ∧ I.length ≤ d
def bG (d : Nat) (F : List nF) (K : bK) (Q : nK) : Prop := ∀ (y pc L : Nat) (ov : bO) (S : Nat) (ss : List bE) (I : List bF) (M : nM), bwf d L ov ss I → K y pc L ov S ss I M = true → Q (d - I.length) y pc (pk_L L 0 ov) (pk_S S ss) (pk_F F I) M = true
/-- a block's step does what the coded evaluator's own step does -/
def b_ok (f : bC) (g : nC) : Prop := ∀ (d L : Nat) (ov : bO) (S : Nat) (ss : List bE) (I : List bF) (M : nM) (F : List nF) (K : bK) (Q : nK), bwf d L ov ss I → bG d F K Q → (∃ ρ st, nS ρ (pk_S S ss) st) → f d L ov S ss I M K false = true → g (d - I.length) (pk_L L 0 ov) (pk_S S ss) (pk_F F I) M Q false = true
theorem bwf.ss {d L : Nat} {ov : bO} {ss ss' : List bE} {I : List bF} (h : bwf d L ov ss I) (hs : ∀ e ∈ ss', be e) : bwf d L ov ss' I := ⟨hs, h.2⟩
theorem bwf.push {d L : Nat} {ov : bO} {ss ss' : List bE} {I : List bF} {e : bE} (h : bwf d L ov ss I) (he : be e) (hs : ∀ e ∈ ss', be e) : bwf d L ov (e :: ss') I := ⟨fun q hq => by
  rcases List.mem_cons.mp hq with r | r
  · rw [r]; exact he
  · exact hs q r, h.2⟩
theorem bwf.ov {d L L' : Nat} {ov ov' : bO} {ss : List bE} {I : List bF} (h : bwf d L ov ss I) (ho : bow L' ov') : bwf d L' ov' ss I := ⟨h.1, ho, h.2.2⟩
