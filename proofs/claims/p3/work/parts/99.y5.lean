/-! CUTS: what they leave of kinds -/
theorem kp4 {g : Nat → Nat} {μ m1 m2 m3 m4 : eM} {a0 r ra rb rd k2 k3 k4 ρ ρ2 ρ3 ρ4 : Nat} {i x1 x2 x3 x4 : Int} (e : μ.1 a0 0 = (r : Int)) (w1 : Wr μ m1 r i.toNat x1) (w2 : Wr m1 m2 ra k2 x2) (w3 : Wr m2 m3 rb k3 x3) (w4 : Wr m3 m4 rd k4 x4) (hr : g r = ρ) (h2 : g ra = ρ2) (n2 : ρ2 ≠ ρ) (h3 : g rb = ρ3) (n3 : ρ3 ≠ ρ) (h4 : g rd = ρ4) (n4 : ρ4 ≠ ρ) : ∀ j : Nat, (j : Int) < i → m4.1 (μ.1 a0 0).toNat j = μ.1 (μ.1 a0 0).toNat j := by
  intro j hj
  rw [e, Int.toNat_natCast]
  have s1 : m1.1 r j = μ.1 r j := w1.slot rfl (by omega)
  exact w4.addr (w3.addr (w2.addr s1 h2 hr n2) h3 hr n3) h4 hr n4
theorem kq_fr {l : List Nat} {c s r ρ : Nat} {n : Int} {v : Nat → Int} {g : Nat → Nat} {m m2 : eM} (h : ∀ j : Nat, (j : Int) < n → m.1 r j = v j) (hF : Fr l c s g m m2) (hg : g r = ρ) (h0 : ρ ≠ 0) (hrow : Nat.ble 100 (RK ρ).1 = true) (hm : mc (256 * ρ) l = false) : ∀ j : Nat, (j : Int) < n → m2.1 r j = v j := fun j hj => hF.kr (h j hj) hg h0 hrow hm
theorem kq_sh {a0 r : Nat} {n n2 : Int} {v : Nat → Int} {m m2 : eM} (h : ∀ j : Nat, (j : Int) < n → m.1 r j = v j) (h2 : ∀ j : Nat, (j : Int) < n2 → m2.1 (m.1 a0 0).toNat j = m.1 (m.1 a0 0).toNat j) (e : m.1 a0 0 = (r : Int)) (hle : n ≤ n2) : ∀ j : Nat, (j : Int) < n → m2.1 r j = v j := by
  intro j hj
  have h3 := h2 j (by omega)
  rw [e, Int.toNat_natCast] at h3
  rw [h3]
  exact h j hj
theorem kq_e {a0 r : Nat} {n : Int} {m m2 : eM} (h : ∀ j : Nat, (j : Int) < n → m2.1 r j = m.1 r j) (e : m.1 a0 0 = (r : Int)) : ∀ j : Nat, (j : Int) < n → m2.1 (m.1 a0 0).toNat j = m.1 (m.1 a0 0).toNat j := by
  intro j hj
  rw [e, Int.toNat_natCast]
  exact h j hj
theorem fc_y {R : Nat → Int} {i i2 n n2 v : Int} (h0 : 0 ≤ i) (h1 : i2 = i + 1) (hr : n = (fcnt (fun x => R x - 1) i.toNat : Int)) (e : R i.toNat = v) (hv : v = 1) (hn : n2 = n + 1) : n2 = (fcnt (fun x => R x - 1) i2.toNat : Int) := by
  rw [show i2.toNat = i.toNat + 1 by omega]
  show n2 = ((fcnt (fun x => R x - 1) i.toNat + (if 0 ≤ R i.toNat - 1 then 1 else 0) : Nat) : Int)
  rw [if_pos (by omega)]
  omega
theorem fc_n {R : Nat → Int} {i i2 n v : Int} (h0 : 0 ≤ i) (h1 : i2 = i + 1) (hr : n = (fcnt (fun x => R x - 1) i.toNat : Int)) (e : R i.toNat = v) (hv : ¬ v = 1) (hb : v ≤ 1) : n = (fcnt (fun x => R x - 1) i2.toNat : Int) := by
  rw [show i2.toNat = i.toNat + 1 by omega]
  show n = ((fcnt (fun x => R x - 1) i.toNat + (if 0 ≤ R i.toNat - 1 then 1 else 0) : Nat) : Int)
  rw [if_neg (by omega)]
  omega
theorem fc_e {μ : eM} {a0 r : Nat} {i n c : Int} (hr : n = (fcnt (fun x => μ.1 r x - 1) i.toNat : Int)) (e : μ.1 a0 0 = (r : Int)) (h : i = c) : n = (fcnt (fun x => μ.1 (μ.1 a0 0).toNat x - 1) c.toNat : Int) := by
  subst h
  rw [e, Int.toNat_natCast]
  exact hr
theorem fcnt_c {r r2 : Nat → Int} : ∀ k : Nat, (∀ j, j < k → r2 j = r j) → fcnt (fun x => r2 x - 1) k = fcnt (fun x => r x - 1) k := by
  intro k
  induction k with
  | zero => intro _; rfl
  | succ k ih =>
    intro h
    show fcnt (fun x => r2 x - 1) k + (if 0 ≤ r2 k - 1 then 1 else 0) = fcnt (fun x => r x - 1) k + (if 0 ≤ r k - 1 then 1 else 0)
    rw [ih (fun j hj => h j (by omega)), h k (by omega)]
/-- one half's parts -/
theorem ca_p {R : Nat → Int} {i p v : Int} (h0 : 0 ≤ i) (hr : p = 2 * (i + 1) + (fcnt (fun x => R x - 1) (i + 1).toNat : Int)) (e : R i.toNat = v) (hb : 0 ≤ v ∧ v ≤ 1) : p - (2 + v) = 2 * i + (fcnt (fun x => R x - 1) i.toNat : Int) := by
  rw [show (i + 1).toNat = i.toNat + 1 by omega] at hr
  have h2 : p = 2 * (i + 1) + ((fcnt (fun x => R x - 1) i.toNat + (if 0 ≤ R i.toNat - 1 then 1 else 0) : Nat) : Int) := hr
  rw [e] at h2
  by_cases hv : v = 1
  · rw [if_pos (by omega)] at h2
    omega
  · rw [if_neg (by omega)] at h2
    omega
theorem ca_b {R R2 : Nat → Int} {i i2 p p2 v : Int} (h0 : 0 ≤ i) (hp : p - (2 + v) = 2 * i + (fcnt (fun x => R x - 1) i.toNat : Int)) (h2 : p2 = p - (2 + v)) (hk : ∀ j : Nat, (j : Int) < p2 → R2 j = R j) (hi : i2 = i - 1) : p2 = 2 * (i2 + 1) + (fcnt (fun x => R2 x - 1) (i2 + 1).toNat : Int) := by
  subst hi
  rw [show (i - 1 + 1).toNat = i.toNat by omega, fcnt_c i.toNat (fun j hj => hk j (by omega))]
  omega
theorem ca_0 {μ : eM} {a0 r : Nat} {p c i : Int} (h : p = 2 * c + (fcnt (fun x => μ.1 (μ.1 a0 0).toNat x - 1) c.toNat : Int)) (e : μ.1 a0 0 = (r : Int)) (hi : i = c - 1) : p = 2 * (i + 1) + (fcnt (fun x => μ.1 r x - 1) (i + 1).toNat : Int) := by
  rw [e, Int.toNat_natCast] at h
  rw [show i + 1 = c by omega]
  exact h
theorem kq_r {a0 r : Nat} {n : Int} {m m2 : eM} (h2 : ∀ j : Nat, (j : Int) < n → m2.1 (m.1 a0 0).toNat j = m.1 (m.1 a0 0).toNat j) (e : m.1 a0 0 = (r : Int)) : ∀ j : Nat, (j : Int) < n → m2.1 r j = m.1 r j := by
  intro j hj
  have h3 := h2 j hj
  rw [e, Int.toNat_natCast] at h3
  exact h3
