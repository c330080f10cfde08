/-! THE HEAP GROWS: new rows, new objects -/
def GE (g g2 : Nat → Nat) : Prop := g2 0 = 0 ∧ ∀ a, g a ≠ 0 → g2 a = g a
theorem GE.t {g g1 g2 : Nat → Nat} (h : GE g g1) (h2 : GE g1 g2) : GE g g2 := ⟨h2.1, fun a ha => by
  have e := h.2 a ha
  rw [h2.2 a (by rw [e]; exact ha), e]⟩
theorem GE.g {g g2 : Nat → Nat} {a ρ : Nat} (h : GE g g2) (hg : g a = ρ) (h0 : ρ ≠ 0) : g2 a = ρ := by
  subst hg
  exact h.2 a h0
theorem SI.re {g : Nat → Nat} {μ : eM} (h : SI g μ) : GE g g := ⟨h.1, fun _ _ => rfl⟩
theorem hOk.ge {g g2 : Nat → Nat} {D : hD} {x : Int} (h : hOk g D x) (hE : GE g g2) : hOk g2 D x := by
  cases D with
  | inl b => exact h
  | inr P =>
    obtain ⟨a, h1, h2, h3⟩ := h
    by_cases h0 : g a = 0
    · have ha := h3 h0
      subst ha
      exact ⟨0, h1, by rw [hE.1, ← h0]; exact h2, fun _ => rfl⟩
    · exact ⟨a, h1, by rw [hE.2 a h0]; exact h2, fun q => absurd ((hE.2 a h0).symm.trans q) h0⟩
def gs (g : Nat → Nat) (a ρ : Nat) : Nat → Nat := fun x => if x = a then ρ else g x
theorem kn_nw {μ : eM} {c n a : Nat} {z : Nat × Nat} (h : ev_kn μ a = some z) : ev_kn (ev_nw μ c n) a = some z := by
  unfold ev_kn at h ⊢
  split at h
  · cases h
  · rename_i h1
    rw [if_neg h1]
    show (μ.2.1 ++ [(c, n)])[a - 64]? = some z
    have h2 := (List.getElem?_eq_some_iff.mp h).1
    rw [List.getElem?_append_left h2]
    exact h
theorem kn_ne {μ : eM} {a : Nat} {z : Nat × Nat} (h : ev_kn μ a = some z) : a ≠ μ.2.1.length + 64 := by
  unfold ev_kn at h
  split at h
  · cases h
  · have h2 := (List.getElem?_eq_some_iff.mp h).1
    omega
theorem kn_new (μ : eM) (c n : Nat) : ev_kn (ev_nw μ c n) (μ.2.1.length + 64) = some (c, n) := by
  unfold ev_kn
  rw [if_neg (by omega)]
  show (μ.2.1 ++ [(c, n)])[μ.2.1.length + 64 - 64]? = _
  rw [Nat.add_sub_cancel, List.getElem?_append_right (Nat.le_refl _), Nat.sub_self]
  rfl
theorem nw_sl {μ : eM} {c n a k : Nat} (h : a ≠ μ.2.1.length + 64) : (ev_nw μ c n).1 a k = μ.1 a k := by
  show ev_ur μ.1 _ _ a k = _
  unfold ev_ur
  rw [if_neg h]
theorem nw_0 {μ : eM} {c n k : Nat} : (ev_nw μ c n).1 (μ.2.1.length + 64) k = 0 := by
  show ev_ur μ.1 _ _ _ k = _
  unfold ev_ur
  rw [if_pos rfl]
theorem SI.free {g : Nat → Nat} {μ : eM} (h : SI g μ) : g (μ.2.1.length + 64) = 0 := by
  by_cases h0 : g (μ.2.1.length + 64) = 0
  · exact h0
  · exact absurd rfl (kn_ne (h.2.1 _ h0))
theorem SI.nw {g : Nat → Nat} {μ : eM} {c n : Nat} (h : SI g μ) : SI g (ev_nw μ c n) ∧ Fr [] 1 n g μ (ev_nw μ c n) := by
  have hne : ∀ a, g a ≠ 0 → a ≠ μ.2.1.length + 64 := fun a ha => kn_ne (h.2.1 a ha)
  refine ⟨⟨h.1, fun a ha => kn_nw (h.2.1 a ha), fun a k ha hk => ?_, h.2.2.2⟩, ?_, Nat.le_refl _, fun a k ha _ => nw_sl (hne a ha)⟩
  · rw [nw_sl (hne a ha)]
    exact h.2.2.1 a k ha hk
  · show (μ.2.1 ++ [(c, n)]).length ≤ _
    rw [List.length_append]
    exact Nat.le_refl _
/-- an address is given a region -/
theorem SI.pb {g : Nat → Nat} {μ : eM} {a ρ : Nat} (h : SI g μ) (ha : g a = 0) (h64 : a ≠ 0) (h0 : ρ ≠ 0) (h52 : ρ < 52) (hk : ev_kn μ a = some (RK ρ)) (hs : ∀ k, k < (RK ρ).2 → hOk g (SD ρ k) (μ.1 a k)) : ∃ g2 : Nat → Nat, SI g2 μ ∧ GE g g2 ∧ g2 a = ρ := by
  have e : ∀ x, x ≠ a → gs g a ρ x = g x := fun x hx => if_neg hx
  have ea : gs g a ρ a = ρ := if_pos rfl
  have hE : GE g (gs g a ρ) := ⟨(e 0 (fun q => h64 q.symm)).trans h.1, fun x hx => e x (fun q => hx (by rw [q]; exact ha))⟩
  refine ⟨gs g a ρ, ⟨hE.1, fun x hx => ?_, fun x k hx hk2 => ?_, fun x y hx hxy => ?_⟩, hE, ea⟩
  · by_cases q : x = a
    · subst q
      rw [ea]
      exact hk
    · rw [e x q] at hx ⊢
      exact h.2.1 x hx
  · by_cases q : x = a
    · subst q
      rw [ea] at hk2 ⊢
      exact (hs k hk2).ge hE
    · rw [e x q] at hx hk2 ⊢
      exact (h.2.2.1 x k hx hk2).ge hE
  · by_cases q : x = a
    · subst q
      rw [ea] at hx
      omega
    · rw [e x q] at hx hxy
      by_cases q2 : y = a
      · subst q2
        rw [ea] at hxy
        omega
      · rw [e y q2] at hxy
        exact h.2.2.2 x y hx hxy
/-- a new row -/
theorem SI.nr {g : Nat → Nat} {μ : eM} {ρ c n : Nat} {lo hi : Int} (h : SI g μ) (hk : RK ρ = (c, n)) (h0 : ρ ≠ 0) (h52 : ρ < 52) (hd : ∀ k, SD ρ k = .inl (lo, hi)) (hz : lo ≤ 0 ∧ 0 ≤ hi) : ∃ g2 : Nat → Nat, SI g2 (ev_nw μ c n) ∧ GE g g2 ∧ g2 (μ.2.1.length + 64) = ρ := by
  refine SI.pb (SI.nw h).1 h.free (by omega) h0 h52 (by rw [kn_new, hk]) (fun k hk2 => ?_)
  rw [nw_0]
  exact hO_i (hd k) hz
/-- an object that is being made: its slots -/
def UC (g : Nat → Nat) (μ : eM) (r c n : Nat) (L : List Int) : Prop := g r = 0 ∧ 64 ≤ r ∧ ev_kn μ r = some (c, n) ∧ ∀ k, k < n → μ.1 r k = L.getD k 0
theorem UC.new {g : Nat → Nat} {μ : eM} {c n : Nat} (h : SI g μ) : UC g (ev_nw μ c n) (μ.2.1.length + 64) c n (List.replicate n 0) := ⟨h.free, by omega, kn_new μ c n, fun k hk => by
  rw [nw_0, List.getD_eq_getElem?_getD, List.getElem?_replicate, if_pos hk]
  rfl⟩
theorem UC.kd {g : Nat → Nat} {μ : eM} {r c n : Nat} {L : List Int} (h : UC g μ r c n L) : ev_kd μ r = some c := kn_kd h.2.2.1
/-- rows made behind it -/
theorem UC.nw {g : Nat → Nat} {μ : eM} {r c n c2 n2 : Nat} {L : List Int} (h : UC g μ r c n L) : UC g (ev_nw μ c2 n2) r c n L := ⟨h.1, h.2.1, kn_nw h.2.2.1, fun k hk => by rw [nw_sl (kn_ne h.2.2.1)]; exact h.2.2.2 k hk⟩
theorem UC.ge {g g2 : Nat → Nat} {μ : eM} {r c n a ρ : Nat} {L : List Int} (h : UC g μ r c n L) (hg : ∀ x, x ≠ a → g2 x = g x) (hr : r ≠ a) : UC g2 μ r c n L := ⟨(hg r hr).trans h.1, h.2⟩
/-- a slot of it is written -/
theorem UC.w {g : Nat → Nat} {μ m : eM} {r c n k : Nat} {L : List Int} {x : Int} (h : UC g μ r c n L) (hw : Wr μ m r k x) (hl : k < L.length) : UC g m r c n (L.set k x) := by
  subst hw
  refine ⟨h.1, h.2.1, h.2.2.1, fun j hj => ?_⟩
  show ev_up μ.1 r k x r j = _
  rw [u_eq]
  by_cases q : j = k
  · subst q
    rw [if_pos ⟨rfl, rfl⟩, List.getD_eq_getElem?_getD, List.getElem?_set_self hl]
    rfl
  · rw [if_neg (fun z => q z.2), h.2.2.2 j hj, List.getD_eq_getElem?_getD, List.getD_eq_getElem?_getD, List.getElem?_set_ne (fun z => q z.symm)]
/-- another one is written -/
theorem UC.o {g : Nat → Nat} {μ m : eM} {r c n a k : Nat} {L : List Int} {x : Int} (h : UC g μ r c n L) (hw : Wr μ m a k x) (ha : a ≠ r) : UC g m r c n L := by
  subst hw
  refine ⟨h.1, h.2.1, h.2.2.1, fun j hj => ?_⟩
  show ev_up μ.1 a k x r j = _
  rw [u_eq, if_neg (fun z => ha z.1.symm)]
  exact h.2.2.2 j hj
theorem SI.w0 {g : Nat → Nat} {μ m : eM} {a k : Nat} {x : Int} (h : SI g μ) (ha : g a = 0) (hw : Wr μ m a k x) : SI g m ∧ Fr [] 0 0 g μ m := by
  subst hw
  have e : ∀ b j, g b ≠ 0 → ev_up μ.1 a k x b j = μ.1 b j := fun b j hb => by
    rw [u_eq, if_neg (fun z => hb (by rw [z.1]; exact ha))]
  refine ⟨⟨h.1, h.2.1, fun b j hb hj => ?_, h.2.2.2⟩, Nat.le_refl _, Nat.le_refl _, fun b j hb _ => e b j hb⟩
  show hOk g (SD (g b) j) (ev_up μ.1 a k x b j)
  rw [e b j hb]
  exact h.2.2.1 b j hb hj
/-- it is done -/
theorem UC.pb {g : Nat → Nat} {μ : eM} {r c n ρ : Nat} {L : List Int} (h : UC g μ r c n L) (hI : SI g μ) (h0 : ρ ≠ 0) (h52 : ρ < 52) (hk : RK ρ = (c, n)) (hs : ∀ k, k < n → hOk g (SD ρ k) (L.getD k 0)) : ∃ g2 : Nat → Nat, SI g2 μ ∧ GE g g2 ∧ g2 r = ρ := by
  refine hI.pb h.1 (by have := h.2.1; omega) h0 h52 (by rw [h.2.2.1, hk]) (fun k hk2 => ?_)
  rw [hk] at hk2
  rw [h.2.2.2 k hk2]
  exact hs k hk2
theorem j_pu {fg : eG} {rc : eQ} {d y pc np a b t pl idx c n : Nat} {x w : Int} {v : eV} {lv : List (Option eV)} {st : List eV} {F : List eFr} {μ : eM} {g : Nat → Nat} {L : List Int} (hr : (dt_co y).get pc = (pc, .putfield idx, 3, (c, b, t, pl), x)) (hp : pc + 3 = np) (hI : SI g μ) (hU : UC g μ a c n L) (hl : b < L.length) (hv : ev_qv t v = some w) (K : ∀ μ2 : eM, SI g μ2 → Fr [] 0 0 g μ μ2 → Wr μ μ2 a b w → UC g μ2 a c n (L.set b w) → ex_q fg rc (d, (y, np, lv, st), F, μ2)) : ex_q fg rc (d, (y, pc, lv, v :: eR a :: st), F, μ) := by
  refine b_pf (w := w) hr hp hU.kd hv ?_
  have h := hI.w0 hU.1 (m := (ev_up μ.1 a b w, μ.2)) rfl
  exact K _ h.1 h.2 rfl (hU.w rfl hl)
theorem j_no {fg : eG} {rc : eQ} {d y pc np a b t pl idx n : Nat} {x : Int} {lv : List (Option eV)} {st : List eV} {F : List eFr} {μ : eM} {g : Nat → Nat} (hr : (dt_co y).get pc = (pc, .new idx, 3, (a, b, t, pl), x)) (hp : pc + 3 = np) (hn : (dt_lay a).length = n) (hI : SI g μ) (K : ∀ (r : Nat) (μ2 : eM), SI g μ2 → Fr [] 1 n g μ μ2 → UC g μ2 r a n (List.replicate n 0) → (∀ r2 c2 n2 L2, UC g μ r2 c2 n2 L2 → UC g μ2 r2 c2 n2 L2 ∧ r2 ≠ r) → ex_q fg rc (d, (y, np, lv, eR r :: st), F, μ2)) : ex_q fg rc (d, (y, pc, lv, st), F, μ) := by
  have h := hI.nw (c := a) (n := n)
  exact v_no hr hp hn rfl (K _ _ h.1 h.2 (UC.new hI) (fun r2 c2 n2 L2 q => ⟨q.nw, kn_ne q.2.2.1⟩))
theorem j_na {fg : eG} {rc : eQ} {d y pc np a b t pl n ρ : Nat} {x lo hi : Int} {ty : Jvm.ClassFile.ArrayType} {lv : List (Option eV)} {st : List eV} {F : List eFr} {μ : eM} {g : Nat → Nat} (hr : (dt_co y).get pc = (pc, .newarray ty, 2, (a, b, t, pl), x)) (hp : pc + 2 = np) (hI : SI g μ) (hk : RK ρ = (a, n)) (h0 : ρ ≠ 0) (h52 : ρ < 52) (hd : ∀ k, SD ρ k = .inl (lo, hi)) (hz : lo ≤ 0 ∧ 0 ≤ hi) (hn : Nat.ble n 1000000 = true) (K : ∀ (r : Nat) (g2 : Nat → Nat) (μ2 : eM), SI g2 μ2 → GE g g2 → g2 r = ρ → Fr [] 1 n g μ μ2 → (∀ r2 c2 n2 L2, UC g μ r2 c2 n2 L2 → UC g2 μ2 r2 c2 n2 L2) → (∀ a2 k2, ev_kn μ a2 ≠ none → μ2.1 a2 k2 = μ.1 a2 k2) → ex_q fg rc (d, (y, np, lv, eR r :: st), F, μ2)) : ex_q fg rc (d, (y, pc, lv, eI (n : Int) :: st), F, μ) := by
  subst hp
  have hn := Nat.ble_eq.mp hn
  obtain ⟨g2, h1, h2, h3⟩ : ∃ g2 : Nat → Nat, SI g2 (ev_nw μ a n) ∧ (GE g g2 ∧ ∀ x, x ≠ μ.2.1.length + 64 → g2 x = g x) ∧ g2 (μ.2.1.length + 64) = ρ := by
    obtain ⟨g2, h1, h2, h3⟩ := hI.nr hk h0 h52 hd hz
    refine ⟨gs g (μ.2.1.length + 64) ρ, ?_, ⟨?_, fun x hx => if_neg hx⟩, if_pos rfl⟩
    · have e : ∀ x, gs g (μ.2.1.length + 64) ρ x ≠ 0 → gs g (μ.2.1.length + 64) ρ x = g2 x := by
        intro x hx
        by_cases q : x = μ.2.1.length + 64
        · rw [q, h3]
          exact if_pos rfl
        · have q2 : gs g (μ.2.1.length + 64) ρ x = g x := if_neg q
          rw [q2] at hx ⊢
          exact (h2.2 x hx).symm
      have E : GE g (gs g (μ.2.1.length + 64) ρ) := ⟨(if_neg (by omega)).trans hI.1, fun x hx => if_neg (kn_ne (hI.2.1 x hx))⟩
      refine ⟨E.1, fun x hx => ?_, fun x k hx hk2 => ?_, fun x y hx hxy => ?_⟩
      · rw [e x hx]
        exact h1.2.1 x (by rw [← e x hx]; exact hx)
      · by_cases q : x = μ.2.1.length + 64
        · rw [q, nw_0, show gs g (μ.2.1.length + 64) ρ (μ.2.1.length + 64) = ρ from if_pos rfl]
          exact hO_i (hd k) hz
        · have q2 : gs g (μ.2.1.length + 64) ρ x = g x := if_neg q
          rw [q2] at hx hk2 ⊢
          rw [nw_sl q]
          exact (hI.2.2.1 x k hx hk2).ge E
      · by_cases q : x = μ.2.1.length + 64
        · rw [q, show gs g (μ.2.1.length + 64) ρ (μ.2.1.length + 64) = ρ from if_pos rfl] at hx
          omega
        · have q2 : gs g (μ.2.1.length + 64) ρ x = g x := if_neg q
          by_cases q3 : y = μ.2.1.length + 64
          · rw [q3, show gs g (μ.2.1.length + 64) ρ (μ.2.1.length + 64) = ρ from if_pos rfl, q2] at hxy
            rw [q2] at hx
            omega
          · have q4 : gs g (μ.2.1.length + 64) ρ y = g y := if_neg q3
            rw [q2] at hx
            rw [q2, q4] at hxy
            exact hI.2.2.2 x y hx hxy
    · exact ⟨(if_neg (by omega)).trans hI.1, fun x hx => if_neg (kn_ne (hI.2.1 x hx))⟩
  have e1 : ev_w (n : Int) = n := ev_w_in (by omega) (by omega)
  refine ex_q_1 (xs_m (st' := eR (μ.2.1.length + 64) :: st) (μ' := ev_nw μ a n) hr rfl ?_) (K _ g2 _ h1 h2.1 h3 hI.nw.2 (fun r2 c2 n2 L2 q => ?_) (fun a2 k2 q => ?_))
  · show (if 0 ≤ ev_w (n : Int) ∧ ev_w (n : Int) ≤ 1000000 then some (eR (μ.2.1.length + 64) :: st, ev_nw μ a (ev_w (n : Int)).toNat) else none) = _
    rw [e1, if_pos ⟨by omega, by omega⟩, Int.toNat_natCast]
  · exact (UC.nw q).ge (a := μ.2.1.length + 64) (ρ := 0) h2.2 (kn_ne q.2.2.1)
  · refine nw_sl (fun e => q ?_)
    rw [e]
    unfold ev_kn
    rw [if_neg (by omega), Nat.add_sub_cancel]
    exact List.getElem?_eq_none (Nat.le_refl _)
theorem Fr.w3 {l : List Nat} {c s a k ρ : Nat} {x : Int} {g g3 : Nat → Nat} {μ m m2 : eM} (h : Fr l c s g μ m) (hE : GE g g3) (hw : Wr m m2 a k x) (hg : g3 a = ρ) (hm : mc (fc ρ k) l = true) : Fr l c s g μ m2 := by
  subst hw
  refine ⟨h.1, h.2.1, fun b j hb hn => ?_⟩
  show ev_up m.1 a k x b j = μ.1 b j
  rw [u_eq, if_neg, h.2.2 b j hb hn]
  rintro ⟨rfl, rfl⟩
  rw [← hE.2 b hb, hg] at hn
  exact hn (mc_in hm)
theorem Fr.v3 {l : List Nat} {c s a k ρ : Nat} {x : Int} {g g3 : Nat → Nat} {μ m m2 : eM} (h : Fr l c s g μ m) (hE : GE g g3) (hw : Wr m m2 a k x) (hg : g3 a = ρ) (hr : Nat.ble 100 (RK ρ).1 = true) (hm : mc (256 * ρ) l = true) : Fr l c s g μ m2 := h.w3 hE hw hg (by rw [fc_row hr]; exact hm)
theorem Fr.t3 {l l2 : List Nat} {c s c2 s2 : Nat} {g g3 : Nat → Nat} {μ m m2 : eM} (h : Fr l c s g μ m) (hE : GE g g3) (h2 : Fr l2 c2 s2 g3 m m2) (hm : ms l2 l = true) : Fr l (c + c2) (s + s2) g μ m2 := by
  obtain ⟨e1, e2, e3⟩ := h
  obtain ⟨f1, f2, f3⟩ := h2
  refine ⟨by omega, by omega, fun a k ha hn => ?_⟩
  have e := hE.2 a ha
  rw [f3 a k (by rw [e]; exact ha) (fun q => hn (by rw [← e]; exact ms_in hm _ q)), e3 a k ha hn]
theorem Fr.up {l : List Nat} {c s c2 s2 : Nat} {g : Nat → Nat} {μ m : eM} (h : Fr l c s g μ m) (hc : Nat.ble c c2 = true) (hs : Nat.ble s s2 = true) : Fr l c2 s2 g μ m := ⟨Nat.le_trans h.1 (Nat.add_le_add_left (Nat.ble_eq.mp hc) _), Nat.le_trans h.2.1 (Nat.add_le_add_left (Nat.ble_eq.mp hs) _), h.2.2⟩
theorem tab_d {dflt lo hi x : Int} {offs : Array Int} {pc np : Nat} {r : List eV} (hx : ev_w x = x) (h : x < lo ∨ hi < x) (hp : (pc : Int) + dflt = (np : Int)) : ev_tab dflt lo hi offs pc x r = some (np, r) := by
  unfold ev_tab
  rw [hx, if_pos h]
  exact h_bt hp True.intro
