/-! HALVES REACHED: as many as have a distance -/
def fcnt (r : Nat → Int) : Nat → Nat
  | 0 => 0
  | k + 1 => fcnt r k + (if 0 ≤ r k then 1 else 0)
theorem fcnt_le (r : Nat → Int) : ∀ k : Nat, fcnt r k ≤ k := by
  intro k
  induction k with
  | zero => exact Nat.le_refl _
  | succ k ih =>
    unfold fcnt
    split <;> omega
theorem fcnt_lt {r : Nat → Int} {i : Nat} (h : r i < 0) : ∀ k : Nat, i < k → fcnt r k + 1 ≤ k := by
  intro k
  induction k with
  | zero => intro h; omega
  | succ k ih =>
    intro hk
    unfold fcnt
    by_cases hi : i = k
    · subst hi
      have := fcnt_le r i
      rw [if_neg (by omega)]
      omega
    · have := ih (by omega)
      split <;> omega
theorem fcnt_up {r r2 : Nat → Int} {i : Nat} {v : Int} (h : r i < 0) (hv : 0 ≤ v) (h2 : ∀ j, r2 j = if j = i then v else r j) : ∀ k : Nat, fcnt r2 k = fcnt r k + (if i < k then 1 else 0) := by
  intro k
  induction k with
  | zero => rfl
  | succ k ih =>
    unfold fcnt
    rw [ih, h2 k]
    by_cases hi : k = i
    · subst hi
      rw [if_pos rfl, if_neg (by omega), if_pos hv, if_neg (by omega), if_pos (by omega)]
    · rw [if_neg hi]
      by_cases hk : i < k
      · rw [if_pos hk, if_pos (show i < k + 1 by omega)]
        omega
      · rw [if_neg hk, if_neg (show ¬ i < k + 1 by omega)]
        omega
def QF (g : Nat → Nat) (μ : eM) : Prop := ∀ a f q : Nat, g a = 52 → g f = 76 → g q = 77 → 0 ≤ μ.1 a 41 ∧ (μ.1 a 41).toNat ≤ fcnt (μ.1 f) 890 ∧ ∀ j : Nat, (j : Int) < μ.1 a 41 → 0 ≤ μ.1 f (μ.1 q j).toNat ∧ μ.1 f (μ.1 q j).toNat ≤ j
/-- what had a distance has the same -/
def FK (g : Nat → Nat) (μ μ2 : eM) : Prop := ∀ f : Nat, g f = 76 → ∀ x : Nat, 0 ≤ μ.1 f x → μ2.1 f x = μ.1 f x
theorem FK.r {g : Nat → Nat} {μ : eM} : FK g μ μ := fun _ _ _ _ => rfl
theorem QF.fr {l : List Nat} {c s : Nat} {g : Nat → Nat} {μ m : eM} (h : QF g μ) (hF : Fr l c s g μ m) (hd : md [19456, 19712, 13354] l = true) : QF g m := by
  intro a f q ha hf hq
  have e1 := hF.row hd hf (by decide) rfl (by decide)
  have e2 := hF.row hd hq (by decide) rfl (by decide)
  have e3 : m.1 a 41 = μ.1 a 41 := hF.fld hd ha (by decide) (by decide)
  rw [e1, e2, e3]
  exact h a f q ha hf hq
theorem QF.z {g : Nat → Nat} {μ : eM} {a : Nat} (hI : SI g μ) (ha : g a = 52) (h : μ.1 a 41 = 0) : QF g μ := by
  intro b f q hb hf hq
  have e := hI.2.2.2 a b (by omega) (by omega)
  subst e
  rw [h]
  exact ⟨Int.le_refl _, Nat.zero_le _, fun j hj => by omega⟩
theorem QF.lt {g : Nat → Nat} {μ : eM} {a f q : Nat} {i qd : Int} (h : QF g μ) (ha : g a = 52) (hf : g f = 76) (hq : g q = 77) (hqd : μ.1 a 41 = qd) (hi : 0 ≤ i ∧ i ≤ 889) (hfar : μ.1 f i.toNat < 0) : 0 ≤ qd ∧ qd ≤ 889 := by
  obtain ⟨h1, h2, -⟩ := h a f q ha hf hq
  have h3 := fcnt_lt hfar 890 (by omega)
  rw [hqd] at h1 h2
  omega
theorem QF.at {g : Nat → Nat} {μ : eM} {a f q : Nat} {k hh qd : Int} (h : QF g μ) (ha : g a = 52) (hf : g f = 76) (hq : g q = 77) (hqd : μ.1 a 41 = qd) (hk : 0 ≤ k ∧ k < qd) (he : μ.1 q k.toNat = hh) : ∃ v : Int, μ.1 f hh.toNat = v ∧ 0 ≤ v ∧ v ≤ k := by
  obtain ⟨-, -, h3⟩ := h a f q ha hf hq
  have h4 := h3 k.toNat (by omega)
  rw [he] at h4
  exact ⟨_, rfl, h4.1, by omega⟩
theorem QF.st {g : Nat → Nat} {μ m1 m2 m3 : eM} {a f q : Nat} {i n qd x : Int} (hI : SI g μ) (ha : g a = 52) (hf : g f = 76) (hq : g q = 77) (h : QF g μ) (hqd : μ.1 a 41 = qd) (hi : 0 ≤ i ∧ i ≤ 889) (hn : 0 ≤ n ∧ n ≤ qd) (hfar : μ.1 f i.toNat < 0) (w1 : Wr μ m1 f i.toNat n) (w2 : Wr m1 m2 q qd.toNat i) (w3 : Wr m2 m3 a 41 x) (hx : x = qd + 1) : QF g m3 ∧ FK g μ m3 := by
  have hfq : f ≠ q := fun e => by rw [e, hq] at hf; cases hf
  have hfa : f ≠ a := fun e => by rw [e, ha] at hf; cases hf
  have hqa : q ≠ a := fun e => by rw [e, ha] at hq; cases hq
  have E : ∀ b j : Nat, m3.1 b j = if b = a ∧ j = 41 then x else if b = q ∧ j = qd.toNat then i else if b = f ∧ j = i.toNat then n else μ.1 b j := by
    intro b j
    subst w1
    subst w2
    subst w3
    show ev_up (ev_up (ev_up μ.1 f i.toNat n) q qd.toNat i) a 41 x b j = _
    rw [u_eq, u_eq, u_eq]
  have Ef : ∀ j, m3.1 f j = if j = i.toNat then n else μ.1 f j := by
    intro j
    rw [E, if_neg (fun z => hfa z.1), if_neg (fun z => hfq z.1)]
    by_cases hj : j = i.toNat
    · rw [if_pos ⟨rfl, hj⟩, if_pos hj]
    · rw [if_neg (fun z => hj z.2), if_neg hj]
  have Eq : ∀ j, m3.1 q j = if j = qd.toNat then i else μ.1 q j := by
    intro j
    rw [E, if_neg (fun z => hqa z.1)]
    by_cases hj : j = qd.toNat
    · rw [if_pos ⟨rfl, hj⟩, if_pos hj]
    · rw [if_neg (fun z => hj z.2), if_neg hj, if_neg (fun z => hfq z.1.symm)]
  have Ea : m3.1 a 41 = qd + 1 := by rw [E, if_pos ⟨rfl, rfl⟩, hx]
  obtain ⟨h1, h2, h3⟩ := h a f q ha hf hq
  rw [hqd] at h1 h2 h3
  refine ⟨?_, ?_⟩
  · intro a' f' q' ha' hf' hq'
    obtain rfl := hI.2.2.2 a a' (by omega) (by omega)
    obtain rfl := hI.2.2.2 f f' (by omega) (by omega)
    obtain rfl := hI.2.2.2 q q' (by omega) (by omega)
    rw [Ea]
    refine ⟨by omega, ?_, ?_⟩
    · rw [fcnt_up hfar hn.1 Ef 890, if_pos (by omega)]
      omega
    · intro j hj
      rw [Eq]
      by_cases hjq : j = qd.toNat
      · rw [if_pos hjq, Ef, if_pos rfl]
        omega
      · rw [if_neg hjq]
        have h4 := h3 j (by omega)
        rw [Ef]
        split
        · rename_i z
          rw [z] at h4
          omega
        · exact h4
  · intro f' hf' x' hx'
    obtain rfl := hI.2.2.2 f f' (by omega) (by omega)
    rw [Ef]
    split
    · rename_i z
      subst z
      omega
    · rfl
