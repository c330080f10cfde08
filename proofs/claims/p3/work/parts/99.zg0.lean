/-! RIBBON: what stands in the queue lies -/
def QH (g : Nat → Nat) (μ : eM) : Prop := ∀ a q : Nat, g a = 52 → g q = 77 → ∀ j : Nat, (j : Int) < μ.1 a 41 → μ.1 q j < μ.1 a 8
theorem QH.fr {l : List Nat} {c s : Nat} {g : Nat → Nat} {μ m : eM} (h : QH g μ) (hF : Fr l c s g μ m) (hd : md [19712, 13354, 13321] l = true) : QH g m := by
  intro a q ha hq
  have e1 := hF.row hd hq (by decide) rfl (by decide)
  have e2 : m.1 a 41 = μ.1 a 41 := hF.fld hd ha (by decide) (by decide)
  have e3 : m.1 a 8 = μ.1 a 8 := hF.fld hd ha (by decide) (by decide)
  rw [e1, e2, e3]
  exact h a q ha hq
theorem QH.z {g : Nat → Nat} {μ : eM} {a : Nat} (hI : SI g μ) (ha : g a = 52) (h : μ.1 a 41 = 0) : QH g μ := by
  intro b q hb hq j hj
  have e := hI.2.2.2 a b (by omega) (by omega)
  subst e
  omega
theorem QH.at {g : Nat → Nat} {μ : eM} {a q : Nat} {k hh qd n : Int} (h : QH g μ) (ha : g a = 52) (hq : g q = 77) (hqd : μ.1 a 41 = qd) (hn : μ.1 a 8 = n) (hk : 0 ≤ k ∧ k < qd) (he : μ.1 q k.toNat = hh) : hh < n := by
  have h3 := h a q ha hq k.toNat (by omega)
  rw [he, hn] at h3
  exact h3
theorem QH.st {g : Nat → Nat} {μ m1 m2 m3 : eM} {a f q : Nat} {i n qd x ha8 : Int} (hI : SI g μ) (ha : g a = 52) (hf : g f = 76) (hq : g q = 77) (h : QH g μ) (hqd : μ.1 a 41 = qd) (h0 : 0 ≤ qd) (h8 : μ.1 a 8 = ha8) (hi : i < ha8) (w1 : Wr μ m1 f i.toNat n) (w2 : Wr m1 m2 q qd.toNat i) (w3 : Wr m2 m3 a 41 x) (hx : x = qd + 1) : QH g m3 := by
  have hfq : f ≠ q := fun e => by rw [e, hq] at hf; cases hf
  have hfa : f ≠ a := fun e => by rw [e, ha] at hf; cases hf
  have hqa : q ≠ a := fun e => by rw [e, ha] at hq; cases hq
  have E : ∀ b j : Nat, m3.1 b j = if b = a ∧ j = 41 then x else if b = q ∧ j = qd.toNat then i else if b = f ∧ j = i.toNat then n else μ.1 b j := by
    intro b j
    subst w1
    subst w2
    subst w3
    show ev_up (ev_up (ev_up μ.1 f i.toNat n) q qd.toNat i) a 41 x b j = _
    rw [u_eq, u_eq, u_eq]
  intro a' q' ha' hq' j hj
  obtain rfl := hI.2.2.2 a a' (by omega) (by omega)
  obtain rfl := hI.2.2.2 q q' (by omega) (by omega)
  have e8 : m3.1 a 8 = ha8 := by rw [E, if_neg (fun z => by cases z.2), if_neg (fun z => hqa z.1.symm), if_neg (fun z => hfa z.1.symm), h8]
  have e41 : m3.1 a 41 = qd + 1 := by rw [E, if_pos ⟨rfl, rfl⟩, hx]
  rw [e41] at hj
  rw [e8, E, if_neg (fun z => hqa z.1)]
  by_cases hjq : j = qd.toNat
  · rw [if_pos ⟨rfl, hjq⟩]
    exact hi
  · rw [if_neg (fun z => hjq z.2), if_neg (fun z => hfq z.1.symm)]
    have h3 := h a q ha hq j (by omega)
    rw [h8] at h3
    exact h3
/-- the halves beside a half lie -/
def LB (g : Nat → Nat) (μ : eM) : Prop := ∀ a lb lc : Nat, g a = 52 → g lb = 68 → g lc = 69 → ∀ i : Nat, (i : Int) < μ.1 a 8 → μ.1 lb i < μ.1 a 8 ∧ μ.1 lc i < μ.1 a 8
theorem LB.fr {l : List Nat} {c s : Nat} {g : Nat → Nat} {μ m : eM} (h : LB g μ) (hF : Fr l c s g μ m) (hd : md [17408, 17664, 13321] l = true) : LB g m := by
  intro a lb lc ha hlb hlc
  have e1 := hF.row hd hlb (by decide) rfl (by decide)
  have e2 := hF.row hd hlc (by decide) rfl (by decide)
  have e3 : m.1 a 8 = μ.1 a 8 := hF.fld hd ha (by decide) (by decide)
  rw [e1, e2, e3]
  exact h a lb lc ha hlb hlc
theorem LB.b {g : Nat → Nat} {μ : eM} {a lb lc : Nat} {i n : Int} (h : LB g μ) (ha : g a = 52) (hlb : g lb = 68) (hlc : g lc = 69) (hn : μ.1 a 8 = n) (hi : 0 ≤ i ∧ i < n) : μ.1 lb i.toNat < n ∧ μ.1 lc i.toNat < n := by
  have h1 := h a lb lc ha hlb hlc i.toNat (by omega)
  rw [hn] at h1
  exact h1
theorem MT.b {g : Nat → Nat} {μ : eM} {a mt : Nat} {i n : Int} (h : MT g μ) (ha : g a = 52) (hpo : ∃ po : Nat, g po = 64) (hmt : g mt = 67) (hn : μ.1 a 8 = n) (hi : 0 ≤ i ∧ i < n) (h0 : 0 ≤ μ.1 mt i.toNat) : μ.1 mt i.toNat < n := by
  obtain ⟨po, hpo⟩ := hpo
  have h1 := (h a po mt ha hpo hmt i.toNat (by omega) h0).1
  rw [hn] at h1
  exact h1
