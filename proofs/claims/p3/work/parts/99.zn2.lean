/-! RENAMING: memories -/
/-- what was there before keeps its number, no cell gets one of those -/
def RB (ρ : Nat → Nat) : Prop := (∀ r, r < 64 → ρ r = r) ∧ ∀ r, 64 ≤ r → 64 ≤ ρ r
theorem RB.z {ρ : Nat → Nat} (h : RB ρ) (r : Nat) : ρ r = 0 ↔ r = 0 := by
  by_cases hr : r < 64
  · rw [h.1 r hr]
  · have := h.2 r (by omega)
    omega
/-- a slot that holds a reference -/
def rnF (c k : Nat) : Prop := c < 100 ∧ (dt_lay c)[k]? = some 3
/-- one cell under its other number -/
def LV (ρ : Nat → Nat) (D : Nat → Prop) (f g : Nat → Int) (c n : Nat) : Prop := ∀ k, (c < 100 ∨ k < n) → (rnF c k → ∃ x : Nat, f k = (x : Int) ∧ g k = ((ρ x : Nat) : Int) ∧ (x < 64 ∨ D x)) ∧ (¬ rnF c k → g k = f k)
/-- the small memory's cells of D lie in the other one (rows, if ct, may be longer there); those of sort 104 are never looked at -/
def RN (ct : Bool) (ρ : Nat → Nat) (D : Nat → Prop) (μ ν : eM) : Prop := RB ρ ∧ (∀ r, D r → ∃ q, ev_kn μ r = some q ∧ ρ r < ν.2.1.length + 64 ∧ (q.1 = 104 ∨ ∃ n, ev_kn ν (ρ r) = some (q.1, n) ∧ (n = q.2 ∨ (ct = true ∧ 100 ≤ q.1 ∧ q.2 ≤ n)) ∧ LV ρ D (μ.1 r) (ν.1 (ρ r)) q.1 q.2)) ∧ ∀ r r', D r → D r' → ρ r = ρ r' → r = r'
/-- what a run has changed -/
def CH (WF : Nat → Nat → Bool) (ρ : Nat → Nat) (D : Nat → Prop) (μ ν : eM) (ρ' : Nat → Nat) (D' : Nat → Prop) (μ' ν' : eM) : Prop := (∀ r, D r → D' r ∧ ρ' r = ρ r) ∧ (∀ r, D' r → ¬ D r → μ.2.1.length + 64 ≤ r ∧ ν.2.1.length + 64 ≤ ρ' r) ∧ (∀ a, a < ν.2.1.length + 64 → (∀ r q, D r → ev_kn μ r = some q → q.1 ≠ 104 → ρ r ≠ a) → ν'.1 a = ν.1 a) ∧ (∀ a, a < μ.2.1.length + 64 → ¬ D a → μ'.1 a = μ.1 a) ∧ (∀ j, j < ν.2.1.length → ν'.2.1[j]? = ν.2.1[j]?) ∧ (∀ j, j < μ.2.1.length → μ'.2.1[j]? = μ.2.1[j]?) ∧ (ν'.2.1.length + μ.2.1.length = ν.2.1.length + μ'.2.1.length ∧ ν'.2.2 + μ.2.2 = ν.2.2 + μ'.2.2) ∧ (μ.2.1.length ≤ μ'.2.1.length ∧ ν.2.1.length ≤ ν'.2.1.length) ∧ ∀ r q, D r → ev_kn μ r = some q → ∀ k, (q.1 < 100 → WF q.1 k = false → ν'.1 (ρ r) k = ν.1 (ρ r) k) ∧ (100 ≤ q.1 → q.2 ≤ k → ν'.1 (ρ r) k = ν.1 (ρ r) k)
theorem CH.r {WF : Nat → Nat → Bool} {ρ : Nat → Nat} {D : Nat → Prop} {μ ν : eM} : CH WF ρ D μ ν ρ D μ ν := ⟨fun _ h => ⟨h, rfl⟩, fun r h h2 => absurd h h2, fun _ _ _ => rfl, fun _ _ _ => rfl, fun _ _ => rfl, fun _ _ => rfl, ⟨rfl, rfl⟩, ⟨Nat.le_refl _, Nat.le_refl _⟩, fun _ _ _ _ _ => ⟨fun _ _ => rfl, fun _ _ => rfl⟩⟩
theorem kn_64 {μ : eM} {r : Nat} {q : Nat × Nat} (h : ev_kn μ r = some q) : 64 ≤ r ∧ r < μ.2.1.length + 64 ∧ μ.2.1[r - 64]? = some q := by
  unfold ev_kn at h
  split at h
  · cases h
  · rename_i h0
    have h1 := (List.getElem?_eq_some_iff.mp h).1
    exact ⟨by omega, by omega, h⟩
theorem kn_of {μ : eM} {r : Nat} {q : Nat × Nat} (h0 : 64 ≤ r) (h : μ.2.1[r - 64]? = some q) : ev_kn μ r = some q := by
  unfold ev_kn
  rw [if_neg (by omega)]
  exact h
theorem CH.t {WF : Nat → Nat → Bool} {ct : Bool} {ρ ρ1 ρ2 : Nat → Nat} {D D1 D2 : Nat → Prop} {μ ν μ1 ν1 μ2 ν2 : eM} (hR : RN ct ρ D μ ν) (h : CH WF ρ D μ ν ρ1 D1 μ1 ν1) (h2 : CH WF ρ1 D1 μ1 ν1 ρ2 D2 μ2 ν2) : CH WF ρ D μ ν ρ2 D2 μ2 ν2 := by
  obtain ⟨a1, a2, a3, a4, a5, a6, ⟨a7, a8⟩, ⟨a9, a10⟩, a11⟩ := h
  obtain ⟨b1, b2, b3, b4, b5, b6, ⟨b7, b8⟩, ⟨b9, b10⟩, b11⟩ := h2
  refine ⟨fun r h => ⟨(b1 r (a1 r h).1).1, (b1 r (a1 r h).1).2.trans (a1 r h).2⟩, fun r h hn => ?_, fun a ha hq => ?_, fun a ha hn => ?_, fun j hj => ?_, fun j hj => ?_, ⟨by omega, by omega⟩, ⟨by omega, by omega⟩, fun r q h0 hkn k => ?_⟩
  · by_cases h1 : D1 r
    · have := a2 r h1 hn
      rw [(b1 r h1).2]
      exact this
    · have := b2 r h h1
      omega
  · rw [b3 a (by omega), a3 a ha hq]
    intro r q h1 hkn hk
    by_cases h0 : D r
    · rw [(a1 r h0).2]
      obtain ⟨q0, g1, -⟩ := hR.2.1 r h0
      obtain ⟨e1, e2, e3⟩ := kn_64 g1
      obtain ⟨-, -, e4⟩ := kn_64 hkn
      rw [a6 _ (by omega), e3] at e4
      cases e4
      exact hq r _ h0 g1 hk
    · have := (a2 r h1 h0).2
      omega
  · rw [b4 a (by omega), a4 a ha hn]
    intro h1
    have := (a2 a h1 hn).1
    omega
  · rw [b5 j (by omega), a5 j hj]
  · rw [b6 j (by omega), a6 j hj]
  · obtain ⟨e1, e2, e3⟩ := kn_64 hkn
    have hkn1 : ev_kn μ1 r = some q := kn_of e1 (by rw [a6 _ (by omega)]; exact e3)
    have g := b11 r q (a1 r h0).1 hkn1 k
    rw [(a1 r h0).2] at g
    exact ⟨fun c w => (g.1 c w).trans ((a11 r q h0 hkn k).1 c w), fun c w => (g.2 c w).trans ((a11 r q h0 hkn k).2 c w)⟩
theorem LV.up {ρ ρ' : Nat → Nat} {D D' : Nat → Prop} {f g : Nat → Int} {c n : Nat} (h : LV ρ D f g c n) (hb : RB ρ) (hb' : RB ρ') (hD : ∀ r, D r → D' r ∧ ρ' r = ρ r) : LV ρ' D' f g c n := by
  intro k hkn
  refine ⟨fun hs => ?_, (h k hkn).2⟩
  obtain ⟨x, h1, h2, h3⟩ := (h k hkn).1 hs
  rcases h3 with h3 | h3
  · exact ⟨x, h1, by rw [h2, hb.1 x h3, hb'.1 x h3], Or.inl h3⟩
  · exact ⟨x, h1, by rw [h2, (hD x h3).2], Or.inr (hD x h3).1⟩
/-- a row is another one -/
theorem rn_wr {WF : Nat → Nat → Bool} {ct : Bool} {ρ : Nat → Nat} {D : Nat → Prop} {μ ν : eM} (h : RN ct ρ D μ ν) {r : Nat} {q : Nat × Nat} (hr : D r) (hq : ev_kn μ r = some q) (hq4 : q.1 ≠ 104) {f f' : Nat → Int} (hf : LV ρ D f f' q.1 q.2) (hfr : ∀ k, (q.1 < 100 → WF q.1 k = false → f' k = ν.1 (ρ r) k) ∧ (100 ≤ q.1 → q.2 ≤ k → f' k = ν.1 (ρ r) k)) : RN ct ρ D (ev_ur μ.1 r f, μ.2) (ev_ur ν.1 (ρ r) f', ν.2) ∧ CH WF ρ D μ ν ρ D (ev_ur μ.1 r f, μ.2) (ev_ur ν.1 (ρ r) f', ν.2) := by
  refine ⟨⟨h.1, fun r1 h1 => ?_, h.2.2⟩, fun _ h => ⟨h, rfl⟩, fun r h h2 => absurd h h2, fun a ha hn => ?_, fun a ha hn => ?_, fun _ _ => rfl, fun _ _ => rfl, ⟨rfl, rfl⟩, ⟨Nat.le_refl _, Nat.le_refl _⟩, fun r1 q1 h1 hk1 k => ?_⟩
  · obtain ⟨q1, g1, g2, g3⟩ := h.2.1 r1 h1
    refine ⟨q1, g1, g2, ?_⟩
    rcases g3 with g3 | ⟨n1, g3, gn, g4⟩
    · exact Or.inl g3
    · refine Or.inr ⟨n1, g3, gn, ?_⟩
      show LV ρ D (ev_ur μ.1 r f r1) (ev_ur ν.1 (ρ r) f' (ρ r1)) q1.1 q1.2
      unfold ev_ur
      by_cases e : r1 = r
      · subst e
        rw [g1] at hq
        cases hq
        rw [if_pos rfl, if_pos rfl]
        exact hf
      · rw [if_neg e, if_neg (fun z => e (h.2.2 _ _ h1 hr z))]
        exact g4
  · show ev_ur ν.1 (ρ r) f' a = ν.1 a
    unfold ev_ur
    rw [if_neg (fun z => hn r q hr hq hq4 z.symm)]
  · show ev_ur μ.1 r f a = μ.1 a
    unfold ev_ur
    rw [if_neg (show ¬ a = r from fun z => hn (by rw [z]; exact hr))]
  · show (q1.1 < 100 → WF q1.1 k = false → ev_ur ν.1 (ρ r) f' (ρ r1) k = ν.1 (ρ r1) k) ∧ (100 ≤ q1.1 → q1.2 ≤ k → ev_ur ν.1 (ρ r) f' (ρ r1) k = ν.1 (ρ r1) k)
    unfold ev_ur
    by_cases e : r1 = r
    · subst e
      rw [hk1] at hq
      cases hq
      rw [if_pos rfl]
      exact hfr k
    · rw [if_neg (fun z => e (h.2.2 _ _ h1 hr z))]
      exact ⟨fun _ _ => rfl, fun _ _ => rfl⟩
/-- a new cell -/
theorem rn_nw {WF : Nat → Nat → Bool} {ct : Bool} {ρ : Nat → Nat} {D : Nat → Prop} {μ ν : eM} (h : RN ct ρ D μ ν) (kd n : Nat) : ∃ ρ' D', RN ct ρ' D' (ev_nw μ kd n) (ev_nw ν kd n) ∧ CH WF ρ D μ ν ρ' D' (ev_nw μ kd n) (ev_nw ν kd n) ∧ D' (μ.2.1.length + 64) ∧ ρ' (μ.2.1.length + 64) = ν.2.1.length + 64 := by
  obtain ⟨hb, h2, h3⟩ := h
  have hlt : ∀ r, D r → r < μ.2.1.length + 64 := fun r hr => by
    obtain ⟨q, g1, -⟩ := h2 r hr
    exact (kn_64 g1).2.1
  have hlt2 : ∀ r, D r → ρ r < ν.2.1.length + 64 := fun r hr => by
    obtain ⟨q, -, g1, -⟩ := h2 r hr
    exact g1
  have e1 : (ev_nw μ kd n).2.1 = μ.2.1 ++ [(kd, n)] := rfl
  have e2 : (ev_nw ν kd n).2.1 = ν.2.1 ++ [(kd, n)] := rfl
  have hb' : RB (fun r => if r = μ.2.1.length + 64 then ν.2.1.length + 64 else ρ r) := by
    refine ⟨fun r hr => ?_, fun r hr => ?_⟩
    · show (if r = _ then _ else _) = _
      rw [if_neg (by omega)]
      exact hb.1 r hr
    · show 64 ≤ (if r = _ then _ else _)
      split
      · omega
      · exact hb.2 r hr
  have hD : ∀ r, D r → (D r ∨ r = μ.2.1.length + 64) ∧ (if r = μ.2.1.length + 64 then ν.2.1.length + 64 else ρ r) = ρ r := fun r hr => ⟨Or.inl hr, if_neg (by have := hlt r hr; omega)⟩
  refine ⟨fun r => if r = μ.2.1.length + 64 then ν.2.1.length + 64 else ρ r, fun r => D r ∨ r = μ.2.1.length + 64, ⟨hb', fun r hr => ?_, fun r r' hr hr' he => ?_⟩, ⟨hD, fun r hr hn => ?_, fun a ha _ => ?_, fun a ha _ => ?_, fun j hj => ?_, fun j hj => ?_, ⟨?_, ?_⟩, ⟨?_, ?_⟩, fun r q hr _ k => ?_⟩, Or.inr rfl, if_pos rfl⟩
  · rcases hr with hr | hr
    · obtain ⟨q, g1, g2, g3⟩ := h2 r hr
      obtain ⟨k1, k2, k3⟩ := kn_64 g1
      refine ⟨q, kn_of k1 (by rw [e1, List.getElem?_append_left (by omega)]; exact k3), ?_, ?_⟩
      · rw [e2, List.length_append]
        show (if _ then _ else _) < _
        rw [if_neg (by omega)]
        omega
      · show q.1 = 104 ∨ ∃ n1, ev_kn (ev_nw ν kd n) (if r = μ.2.1.length + 64 then ν.2.1.length + 64 else ρ r) = some (q.1, n1) ∧ (n1 = q.2 ∨ (ct = true ∧ 100 ≤ q.1 ∧ q.2 ≤ n1)) ∧ LV _ _ (ev_ur μ.1 (μ.2.1.length + 64) (fun _ => 0) r) (ev_ur ν.1 (ν.2.1.length + 64) (fun _ => 0) (if r = μ.2.1.length + 64 then ν.2.1.length + 64 else ρ r)) q.1 q.2
        rw [if_neg (by omega)]
        rcases g3 with g3 | ⟨n1, g3, gn, g4⟩
        · exact Or.inl g3
        · obtain ⟨j1, j2, j3⟩ := kn_64 g3
          refine Or.inr ⟨n1, kn_of j1 (by rw [e2, List.getElem?_append_left (by omega)]; exact j3), gn, ?_⟩
          unfold ev_ur
          rw [if_neg (by omega), if_neg (by omega)]
          exact g4.up hb hb' hD
    · subst hr
      refine ⟨(kd, n), kn_of (by omega) (by rw [e1, List.getElem?_append_right (by omega), show μ.2.1.length + 64 - 64 - μ.2.1.length = 0 by omega]; rfl), ?_, Or.inr ⟨n, ?_, Or.inl rfl, ?_⟩⟩
      · rw [e2, List.length_append]
        show (if _ then _ else _) < _
        rw [if_pos rfl]
        show _ < _ + 1 + 64
        omega
      · show ev_kn (ev_nw ν kd n) (if _ then _ else _) = _
        rw [if_pos rfl]
        exact kn_of (by omega) (by rw [e2, List.getElem?_append_right (by omega), show ν.2.1.length + 64 - 64 - ν.2.1.length = 0 by omega]; rfl)
      · show LV _ _ (ev_ur μ.1 (μ.2.1.length + 64) (fun _ => 0) (μ.2.1.length + 64)) (ev_ur ν.1 (ν.2.1.length + 64) (fun _ => 0) (if _ then _ else _)) kd n
        rw [if_pos rfl]
        unfold ev_ur
        rw [if_pos rfl, if_pos rfl]
        exact fun k _ => ⟨fun _ => ⟨0, rfl, by show (0 : Int) = ((if (0 : Nat) = _ then _ else ρ 0 : Nat) : Int); rw [if_neg (by omega), hb.1 0 (by omega)]; rfl, Or.inl (by omega)⟩, fun _ => rfl⟩
  · have he : (if r = μ.2.1.length + 64 then ν.2.1.length + 64 else ρ r) = (if r' = μ.2.1.length + 64 then ν.2.1.length + 64 else ρ r') := he
    rcases hr with hr | hr <;> rcases hr' with hr' | hr'
    · rw [if_neg (by have := hlt r hr; omega), if_neg (by have := hlt r' hr'; omega)] at he
      exact h3 r r' hr hr' he
    · rw [if_neg (by have := hlt r hr; omega), if_pos hr'] at he
      have := hlt2 r hr
      omega
    · rw [if_pos hr, if_neg (by have := hlt r' hr'; omega)] at he
      have := hlt2 r' hr'
      omega
    · rw [hr, hr']
  · rcases hr with hr | hr
    · exact absurd hr hn
    · subst hr
      refine ⟨Nat.le_refl _, ?_⟩
      show _ ≤ (if _ then _ else _)
      rw [if_pos rfl]
      exact Nat.le_refl _
  · show ev_ur ν.1 (ν.2.1.length + 64) (fun _ => 0) a = ν.1 a
    unfold ev_ur
    rw [if_neg (by omega)]
  · show ev_ur μ.1 (μ.2.1.length + 64) (fun _ => 0) a = μ.1 a
    unfold ev_ur
    rw [if_neg (by omega)]
  · rw [e2, List.getElem?_append_left hj]
  · rw [e1, List.getElem?_append_left hj]
  · rw [e1, e2, List.length_append, List.length_append]
    show _ + 1 + _ = _ + (_ + 1)
    omega
  · show ν.2.2 + n + μ.2.2 = ν.2.2 + (μ.2.2 + n)
    omega
  · rw [e1, List.length_append]
    omega
  · rw [e2, List.length_append]
    omega
  · have hl := hlt2 r hr
    show (_ → _ → ev_ur ν.1 (ν.2.1.length + 64) (fun _ => 0) (ρ r) k = ν.1 (ρ r) k) ∧ (_ → _ → ev_ur ν.1 (ν.2.1.length + 64) (fun _ => 0) (ρ r) k = ν.1 (ρ r) k)
    unfold ev_ur
    rw [if_neg (by omega)]
    exact ⟨fun _ _ => rfl, fun _ _ => rfl⟩
/-! one cell looked at -/
theorem RN.at {ct : Bool} {ρ : Nat → Nat} {D : Nat → Prop} {μ ν : eM} (h : RN ct ρ D μ ν) {r : Nat} {q : Nat × Nat} (hk : r < 64 ∨ D r) (hq : ev_kn μ r = some q) (hq4 : q.1 ≠ 104) : D r ∧ ∃ n, ev_kn ν (ρ r) = some (q.1, n) ∧ (n = q.2 ∨ (ct = true ∧ 100 ≤ q.1 ∧ q.2 ≤ n)) ∧ LV ρ D (μ.1 r) (ν.1 (ρ r)) q.1 q.2 := by
  have hr : D r := hk.resolve_left (fun z => by have := (kn_64 hq).1; omega)
  obtain ⟨q1, g1, -, g3⟩ := h.2.1 r hr
  rw [g1] at hq
  cases hq
  exact ⟨hr, g3.resolve_left hq4⟩
theorem kd_kn {μ : eM} {r c : Nat} (h : ev_kd μ r = some c) : ∃ n, ev_kn μ r = some (c, n) := by
  unfold ev_kd at h
  unfold ev_kn
  split at h
  · cases h
  · rename_i h0
    rw [if_neg h0]
    cases hq : μ.2.1[r - 64]? with
    | none => rw [hq] at h; cases h
    | some q =>
      rw [hq] at h
      cases h
      exact ⟨q.2, rfl⟩
theorem kn_kd2 {μ : eM} {r c n : Nat} (h : ev_kn μ r = some (c, n)) : ev_kd μ r = some c := by
  obtain ⟨h1, -, h2⟩ := kn_64 h
  unfold ev_kd
  rw [if_neg (by omega), h2]
  rfl
theorem al_kn {fg : eG} {μ : eM} {kd r : Nat} {i x : Int} (h : ev_al fg μ kd r i = some x) (h64 : 64 ≤ r) : ∃ n, ev_kn μ r = some (kd, n) ∧ 0 ≤ ev_w i ∧ ev_w i < (n : Int) ∧ x = μ.1 r (ev_w i).toNat := by
  unfold ev_al at h
  rw [if_neg (by omega)] at h
  split at h
  · rename_i q hq
    split at h
    · rename_i h1
      cases h
      obtain ⟨rfl, h2, h3⟩ := h1
      exact ⟨q.2, kn_of h64 hq, h2, h3, rfl⟩
    · cases h
  · cases h
theorem kn_al {fg : eG} {μ : eM} {kd r n : Nat} {i : Int} (h : ev_kn μ r = some (kd, n)) (h1 : 0 ≤ ev_w i) (h2 : ev_w i < (n : Int)) : ev_al fg μ kd r i = some (μ.1 r (ev_w i).toNat) := by
  obtain ⟨g1, -, g2⟩ := kn_64 h
  unfold ev_al
  rw [if_neg (by omega), g2]
  exact if_pos ⟨rfl, h1, h2⟩
theorem rnF_no {c k : Nat} (h : 100 ≤ c) : ¬ rnF c k := fun q => by have := q.1; omega
theorem rn_al {fg : eG} {ct : Bool} {ρ : Nat → Nat} {D : Nat → Prop} {μ ν : eM} (h : RN ct ρ D μ ν) {kd r : Nat} {i x : Int} (hk : r < 64 ∨ D r) (h1 : 100 ≤ kd) (h2 : kd ≤ 103) (ha : ev_al fg μ kd r i = some x) : ev_al fg ν kd (ρ r) i = some x := by
  by_cases h64 : r < 64
  · rw [h.1.1 r h64]
    unfold ev_al at ha ⊢
    rw [if_pos h64] at ha ⊢
    exact ha
  · obtain ⟨n, g1, g2, g3, rfl⟩ := al_kn ha (by omega)
    obtain ⟨-, n1, g4, gn, g5⟩ := h.at hk g1 (by show kd ≠ 104; omega)
    have gn : n1 = n ∨ (ct = true ∧ 100 ≤ kd ∧ n ≤ n1) := gn
    rw [kn_al g4 g2 (by omega), (g5 _ (Or.inr (by show (ev_w i).toNat < n; omega))).2 (rnF_no h1)]
theorem rn_al_no {fg : eG} {ct : Bool} {ρ : Nat → Nat} {D : Nat → Prop} {μ ν : eM} (h : RN ct ρ D μ ν) {r : Nat} {i x : Int} (hk : r < 64 ∨ D r) (ha0 : ev_al fg μ 102 r i = none) (ha : ev_al fg μ 103 r i = some x) : ev_al fg ν 102 (ρ r) i = none := by
  by_cases h64 : r < 64
  · rw [h.1.1 r h64]
    unfold ev_al at ha0 ⊢
    rw [if_pos h64] at ha0 ⊢
    exact ha0
  · obtain ⟨n, g1, g2, g3, rfl⟩ := al_kn ha (by omega)
    obtain ⟨-, n1, g4, gn, g5⟩ := h.at hk g1 (by show 103 ≠ 104; omega)
    exact al_no g4 (by show 102 ≠ 103; decide)
theorem as_kn {μ : eM} {kd r : Nat} {i x : Int} {z : eM} (h : ev_as μ kd r i x = some z) : ∃ n, ev_kn μ r = some (kd, n) ∧ 0 ≤ ev_w i ∧ ev_w i < (n : Int) ∧ z = (ev_up μ.1 r (ev_w i).toNat x, μ.2) := by
  obtain ⟨j, n, rfl, h1, h2, h3⟩ := ev_as_ok h
  exact ⟨n, kn_of (by omega) (by rw [show j + 64 - 64 = j by omega]; exact h1), h2.1, h2.2, h3⟩
theorem kn_as {μ : eM} {kd r n : Nat} {i x : Int} (h : ev_kn μ r = some (kd, n)) (h1 : 0 ≤ ev_w i) (h2 : ev_w i < (n : Int)) : ev_as μ kd r i x = some (ev_up μ.1 r (ev_w i).toNat x, μ.2) := by
  obtain ⟨g1, -, g2⟩ := kn_64 h
  unfold ev_as
  rw [if_neg (by omega), g2]
  exact if_pos ⟨rfl, h1, h2⟩
theorem LV.u1 {ρ : Nat → Nat} {D : Nat → Prop} {f g : Nat → Int} {c n j : Nat} {x : Int} (h : LV ρ D f g c n) (hc : 100 ≤ c) : LV ρ D (ev_u1 f j x) (ev_u1 g j x) c n := by
  intro k hkn
  refine ⟨fun q => absurd q (rnF_no hc), fun q => ?_⟩
  unfold ev_u1
  split
  · rfl
  · exact (h k hkn).2 q
theorem rn_as {WF : Nat → Nat → Bool} {ct : Bool} {ρ : Nat → Nat} {D : Nat → Prop} {μ ν : eM} (h : RN ct ρ D μ ν) {kd r : Nat} {i x : Int} {z : eM} (hk : r < 64 ∨ D r) (h1 : 100 ≤ kd) (h2 : kd ≤ 103) (ha : ev_as μ kd r i x = some z) : ∃ ν', ev_as ν kd (ρ r) i x = some ν' ∧ RN ct ρ D z ν' ∧ CH WF ρ D μ ν ρ D z ν' := by
  obtain ⟨n, g1, g2, g3, rfl⟩ := as_kn ha
  obtain ⟨g0, n1, g4, gn, g5⟩ := h.at hk g1 (by show kd ≠ 104; omega)
  have gn : n1 = n ∨ (ct = true ∧ 100 ≤ kd ∧ n ≤ n1) := gn
  refine ⟨_, kn_as g4 g2 (by omega), rn_wr h g0 g1 (by show kd ≠ 104; omega) (g5.u1 h1) (fun k => ⟨fun q => ?_, fun _ q => ?_⟩)⟩
  · have q : kd < 100 := q
    omega
  · have q : n ≤ k := q
    exact ev_u1_ne (by omega)
theorem rn_as_no {ct : Bool} {ρ : Nat → Nat} {D : Nat → Prop} {μ ν : eM} (h : RN ct ρ D μ ν) {r : Nat} {i x x2 : Int} {z : eM} (hk : r < 64 ∨ D r) (ha : ev_as μ 103 r i x = some z) : ev_as ν 102 (ρ r) i x2 = none := by
  obtain ⟨n, g1, g2, g3, rfl⟩ := as_kn ha
  obtain ⟨-, n1, g4, -, -⟩ := h.at hk g1 (by show 103 ≠ 104; omega)
  exact as_no g4 (by show 102 ≠ 103; decide)
/-- what a row of code must keep -/
noncomputable def fcb (q : eL) : Bool := match q.2.1 with
  | .getfield _ => decide (q.2.2.2.1.1 < 100) && decide ((dt_lay q.2.2.2.1.1)[q.2.2.2.1.2.1]? = some q.2.2.2.1.2.2.1)
  | .putfield _ => decide (q.2.2.2.1.1 < 100) && decide ((dt_lay q.2.2.2.1.1)[q.2.2.2.1.2.1]? = some q.2.2.2.1.2.2.1)
  | .invokevirtual _ => decide (q.2.2.2.1.1 ≠ 0) || decide ((dt_pl q.2.2.2.1.2.1).2.2.2.2.2.2.2 < 100)
  | .new _ => decide (q.2.2.2.1.1 < 100)
  | .newarray _ => decide (100 ≤ q.2.2.2.1.1) && decide (q.2.2.2.1.1 ≤ 103)
  | .getstatic _ => decide (q.2.2.2.1.1 < 64)
  | _ => true
/-- .. of a run that stays within the methods Y and puts the fields WF alone -/
noncomputable def fcy (Y : Nat → Bool) (WF : Nat → Nat → Bool) (ct : Bool) (q : eL) : Bool := fcb q && (match q.2.1 with
  | .putfield _ => WF q.2.2.2.1.1 q.2.2.2.1.2.1
  | .invokevirtual _ => decide (q.2.2.2.1.1 ≠ 0) || Y q.2.2.2.1.2.1
  | .invokestatic _ => decide (q.2.2.2.1.1 ≠ 2) || Y q.2.2.2.1.2.1
  | .invokespecial _ => decide (q.2.2.2.1.1 ≠ 1) || Y q.2.2.2.1.2.1
  | .arraylength => !ct
  | _ => true)
def ra_all {α : Type} (P : α → Bool) : Lean.RArray α → Bool
  | .leaf x => P x
  | .branch _ l r => ra_all P l && ra_all P r
theorem ra_all_ok {α : Type} {P : α → Bool} (t : Lean.RArray α) (h : ra_all P t = true) (i : Nat) : P (t.get i) = true := by
  induction t with
  | leaf x => exact h
  | branch p l r ihl ihr =>
    have h : (ra_all P l && ra_all P r) = true := h
    rw [Bool.and_eq_true] at h
    show P (Bool.rec (l.get i) (r.get i) (Nat.ble p i)) = true
    cases Nat.ble p i with
    | false => exact ihl h.1
    | true => exact ihr h.2
theorem fcb_all : ra_all (fun t => ra_all fcb t) dt_co_t = true := by decide +kernel
theorem fcb_ok (y pc : Nat) : fcb ((dt_co y).get pc) = true := ra_all_ok (dt_co y) (ra_all_ok (P := fun t => ra_all fcb t) dt_co_t fcb_all y) pc
