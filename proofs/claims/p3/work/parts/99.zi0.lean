/-! GAPS and WAYS as functions of what is taken and of the edges -/
def gN (r : Nat → Int) (d : Int) : Nat → Int → Int
  | 0, n => n
  | f + 1, n => if r ((d + n) % 10).toNat = 0 then gN r d f (n + 1) else n
def gG (r : Nat → Int) (d : Int) : Int := if r d.toNat = 0 then (if r ((d + 9) % 10).toNat = 0 then 0 else gN r d 8 1) else 0
theorem gN_s {r : Nat → Int} {d n v : Int} {f : Nat} (h : r ((d + n) % 10).toNat = 0) (k : v = gN r d f (n + 1)) : v = gN r d (f + 1) n := by
  show v = if r ((d + n) % 10).toNat = 0 then _ else _
  rw [if_pos h]
  exact k
theorem gN_e {r : Nat → Int} {d n v : Int} {f : Nat} (h : ¬ r ((d + n) % 10).toNat = 0) (k : v = n) : v = gN r d (f + 1) n := by
  show v = if r ((d + n) % 10).toNat = 0 then _ else _
  rw [if_neg h]
  exact k
theorem gG_a {r : Nat → Int} {d : Int} (h : ¬ r d.toNat = 0) : 0 = gG r d := by
  unfold gG
  rw [if_neg h]
theorem gG_b {r : Nat → Int} {d : Int} (h : r d.toNat = 0) (h2 : r ((d + 9) % 10).toNat = 0) : 0 = gG r d := by
  unfold gG
  rw [if_pos h, if_pos h2]
theorem gG_c {r : Nat → Int} {d v : Int} (h : r d.toNat = 0) (h2 : ¬ r ((d + 9) % 10).toNat = 0) (k : v = gN r d 8 1) : v = gG r d := by
  unfold gG
  rw [if_pos h, if_neg h2]
  exact k
def wA (T E : Nat → Int) : Nat → Int
  | 0 => 1
  | k + 1 => if 0 < gG T k then ev_w (wA T E k * wW 9 (gG T k) (E k) (E (((k : Int) + gG T k) % 10).toNat)) else wA T E k
theorem wA_s {T E : Nat → Int} {d d2 w : Int} (h0 : 0 ≤ d) (h1 : d2 = d + 1) (hw : w = gG T d) : wA T E d2.toNat = if 0 < w then ev_w (wA T E d.toNat * wW 9 w (E d.toNat) (E ((d + w) % 10).toNat)) else wA T E d.toNat := by
  rw [show d2.toNat = d.toNat + 1 by omega]
  show (if 0 < gG T ((d.toNat : Nat) : Int) then ev_w (wA T E d.toNat * wW 9 (gG T ((d.toNat : Nat) : Int)) (E d.toNat) (E ((((d.toNat : Nat) : Int) + gG T ((d.toNat : Nat) : Int)) % 10).toNat)) else wA T E d.toNat) = _
  rw [show ((d.toNat : Nat) : Int) = d by omega, ← hw]
theorem wA_n {T E : Nat → Int} {d d2 w n : Int} (h0 : 0 ≤ d) (h1 : d2 = d + 1) (hw : w = gG T d) (hr : n = wA T E d.toNat) (h : w ≤ 0) : n = wA T E d2.toNat := by
  rw [wA_s h0 h1 hw, if_neg (by omega)]
  exact hr
theorem wA_y {T E : Nat → Int} {d d2 w n n2 r x y j : Int} (h0 : 0 ≤ d) (h1 : d2 = d + 1) (hw : w = gG T d) (hr : n = wA T E d.toNat) (h : 0 < w) (ex : E d.toNat = x) (hj : j = (d + w) % 10) (ey : E j.toNat = y) (er : r = wW 9 w x y) (hn : ev_w (n * r) = n2) : n2 = wA T E d2.toNat := by
  rw [wA_s h0 h1 hw, if_pos h, ← hr, ex, ← hj, ey, ← er]
  exact hn.symm
theorem wA_e {μ : eM} {a0 it ed : Nat} {n i : Int} (hr : n = wA (μ.1 it) (μ.1 ed) i.toNat) (e1 : μ.1 a0 51 = (it : Int)) (e2 : μ.1 a0 52 = (ed : Int)) (h : i = 10) : n = wA (μ.1 (μ.1 a0 51).toNat) (μ.1 (μ.1 a0 52).toNat) 10 := by
  subst h
  rw [e1, e2, Int.toNat_natCast, Int.toNat_natCast]
  exact hr
theorem gG_e {μ : eM} {a0 it : Nat} {v d : Int} (h : v = gG (μ.1 it) d) (e1 : μ.1 a0 51 = (it : Int)) : v = gG (μ.1 (μ.1 a0 51).toNat) d := by
  rw [e1, Int.toNat_natCast]
  exact h
theorem gG_r {μ : eM} {a0 it : Nat} {v d : Int} (h : v = gG (μ.1 (μ.1 a0 51).toNat) d) (e1 : μ.1 a0 51 = (it : Int)) : v = gG (μ.1 it) d := by
  rw [e1, Int.toNat_natCast] at h
  exact h
