/-- a static row's place, by what stands there -/
theorem j_sx {fg : eG} {L : Nat} {ρ : Nat → Int} {rc : eQ} {d y pc np r b t pl c0 n : Nat} {x i lo hi : Int} {lv : List (Option eV)} {st : List eV} {F : List eFr} {μ : eM} (hfg : fg = dt_fg L ρ) (hr : (dt_co y).get pc = (pc, .iaload, 1, (c0, b, t, pl), x)) (hp : pc + 1 = np) (h1 : r ≠ 1) (h2 : r < 64) (h3 : 0 < r) (h4 : dt_sk r = 100) (h5 : (dt_sv r).length = n) (h6 : n < 1000 ∧ (dt_sv r).all (fun z => decide (lo ≤ z) && decide (z ≤ hi)) = true) (h7 : 0 ≤ i) (h8 : i < (n : Int)) (K : ∀ v : Int, v = (dt_sv r).getD i.toNat 0 → lo ≤ v ∧ v ≤ hi → ex_q fg rc (d, (y, np, lv, eI v :: st), F, μ)) : ex_q fg rc (d, (y, pc, lv, eI i :: eR r :: st), F, μ) := by
  subst hfg
  have h9 : i.toNat < (dt_sv r).length := by omega
  refine w_al (v := (dt_sv r).getD i.toNat 0) hr hp (s_al (j := i.toNat) h1 h2 h3 h4 (by omega) h9 (by omega) rfl) (K _ rfl ?_)
  have h10 := List.all_eq_true.mp h6.2 _ (List.getElem_mem h9)
  rw [Bool.and_eq_true] at h10
  rw [List.getD_eq_getElem?_getD, List.getElem?_eq_getElem h9]
  exact ⟨of_decide_eq_true h10.1, of_decide_eq_true h10.2⟩
/-! WAYS to fill: what waysOf answers -/
def wT (G : Int → Int → Int → Int) (w f l : Int) : Nat → Int
  | 0 => 0
  | k + 1 => if (dt_sv 22).getD k 0 ≤ w ∧ (dt_sv 23).getD k 0 = f then ev_w (wT G w f l k + G (w - (dt_sv 22).getD k 0) ((dt_sv 24).getD k 0) l) else wT G w f l k
def wW : Nat → Int → Int → Int → Int
  | 0, _, f, l => if f = l then 1 else 0
  | n + 1, w, f, l => if w = 0 then (if f = l then 1 else 0) else wT (wW n) w f l 8
theorem wT_s {G : Int → Int → Int → Int} {w f l i i2 : Int} (h0 : 0 ≤ i) (h1 : i2 = i + 1) : wT G w f l i2.toNat = if (dt_sv 22).getD i.toNat 0 ≤ w ∧ (dt_sv 23).getD i.toNat 0 = f then ev_w (wT G w f l i.toNat + G (w - (dt_sv 22).getD i.toNat 0) ((dt_sv 24).getD i.toNat 0) l) else wT G w f l i.toNat := by
  rw [show i2.toNat = i.toNat + 1 by omega]
  rfl
theorem wT_b1 {G : Int → Int → Int → Int} {w f l i i2 a v : Int} (h0 : 0 ≤ i) (h1 : i2 = i + 1) (hr : a = wT G w f l i.toNat) (e : v = (dt_sv 22).getD i.toNat 0) (h : w < v) : a = wT G w f l i2.toNat := by
  rw [wT_s h0 h1, if_neg (fun q => by have := q.1; omega)]
  exact hr
theorem wT_b2 {G : Int → Int → Int → Int} {w f l i i2 a u : Int} (h0 : 0 ≤ i) (h1 : i2 = i + 1) (hr : a = wT G w f l i.toNat) (e : u = (dt_sv 23).getD i.toNat 0) (h : ¬ u = f) : a = wT G w f l i2.toNat := by
  rw [wT_s h0 h1, if_neg (fun q => h (e.trans q.2))]
  exact hr
theorem wT_b3 {G : Int → Int → Int → Int} {w f l i i2 a a2 v u z q r : Int} (h0 : 0 ≤ i) (h1 : i2 = i + 1) (hr : a = wT G w f l i.toNat) (e : v = (dt_sv 22).getD i.toNat 0) (h : v ≤ w) (e2 : u = (dt_sv 23).getD i.toNat 0) (h2 : u = f) (e3 : z = (dt_sv 24).getD i.toNat 0) (hq : q = w - v) (hg : r = G q z l) (ha : ev_w (a + r) = a2) : a2 = wT G w f l i2.toNat := by
  rw [wT_s h0 h1, if_pos ⟨by omega, by omega⟩, ← hr, ← e, ← e3, ← hq, ← hg]
  exact ha.symm
theorem wW_z {n : Nat} {w f l v : Int} (h : w = 0) (hv : v = if f = l then 1 else 0) : v = wW n w f l := by
  cases n with
  | zero => exact hv
  | succ n =>
    show v = if w = 0 then _ else _
    rw [if_pos h]
    exact hv
theorem wW_n {n : Nat} {w f l v i : Int} (h : ¬ w = 0) (h8 : i = 8) (hv : v = wT (wW n) w f l i.toNat) : v = wW (n + 1) w f l := by
  subst h8
  show v = if w = 0 then _ else _
  rw [if_neg h]
  exact hv
