/-! THE LAW'S LOOP: what holds between its turns -/
def RP (g : Nat → Nat) (μ : eM) : Prop := PB g μ ∧ PK g μ ∧ LG g μ ∧ MT g μ ∧ LB g μ ∧ FS g μ ∧ PO g μ ∧ SP g μ
def RPl (l : List Nat) : Bool := md PKl l && (md [16384, 16640, 13321] l && (md [16384, 17152, 13321] l && (md [17408, 17664, 13321] l && (md [16128] l && (md [16384, 13321, 13341] l && md [16128, 13341] l)))))
theorem RP.fr {l : List Nat} {c s : Nat} {g : Nat → Nat} {μ m : eM} (h : RP g μ) (hF : Fr l c s g μ m) (hd : RPl l = true) : RP g m := by
  unfold RPl at hd
  rw [Bool.and_eq_true, Bool.and_eq_true, Bool.and_eq_true, Bool.and_eq_true, Bool.and_eq_true, Bool.and_eq_true] at hd
  obtain ⟨d1, d2, d3, d4, d5, d6, d7⟩ := hd
  obtain ⟨h0, h1, h2, h3, h4, h5, h6, h7⟩ := h
  exact ⟨h0, h1.fr hF d1, h2.fr hF d2, h3.fr hF d3, h4.fr hF d4, h5.fr hF d5, h6.fr hF d6, h7.fr hF d7⟩
theorem GP.pa {g g2 : Nat → Nat} (h : GP g g2) (hP : PA g) : PA g2 := fun j h1 h2 => by
  have e := hP j h1 h2
  rcases h.2 (j + 64) (by omega) with q | q | q
  · rw [q, e]
  · omega
  · omega
theorem RP.go {g g2 : Nat → Nat} {m : eM} (h : RP g m) (hI : SI g2 m) (hG : GP g g2) : RP g2 m := by
  obtain ⟨h0, h1, h2, h3, h4, h5, h6, h7⟩ := h
  have hP : PA g := h0
  have hP2 : PA g2 := hG.pa hP
  have cv : ∀ a ρ : Nat, 52 ≤ ρ → ρ < 90 → g2 a = ρ → g a = ρ := fun a ρ q1 q2 q3 => by
    have e := hP2.at hI q1 q2 q3
    have e2 := hP (ρ - 18) (by omega) (by omega)
    rw [show ρ - 18 + 64 = ρ + 46 by omega, show ρ - 18 + 18 = ρ by omega] at e2
    rw [e, e2]
  refine ⟨hP2, ⟨hP2, h1.2⟩, ?_, ?_, ?_, ?_, ?_, ?_⟩
  · exact fun a po ap ha hpo hap => h2 a po ap (cv a 52 (by decide) (by decide) ha) (cv po 64 (by decide) (by decide) hpo) (cv ap 65 (by decide) (by decide) hap)
  · exact fun a po mt ha hpo hmt => h3 a po mt (cv a 52 (by decide) (by decide) ha) (cv po 64 (by decide) (by decide) hpo) (cv mt 67 (by decide) (by decide) hmt)
  · exact fun a lb lc ha hlb hlc => h4 a lb lc (cv a 52 (by decide) (by decide) ha) (cv lb 68 (by decide) (by decide) hlb) (cv lc 69 (by decide) (by decide) hlc)
  · exact fun sl hs => h5 sl (cv sl 63 (by decide) (by decide) hs)
  · exact fun a po ha hpo => h6 a po (cv a 52 (by decide) (by decide) ha) (cv po 64 (by decide) (by decide) hpo)
  · exact fun a sl ha hs => h7 a sl (cv a 52 (by decide) (by decide) ha) (cv sl 63 (by decide) (by decide) hs)
theorem HB.fr {l : List Nat} {c s a0 : Nat} {g : Nat → Nat} {μ m : eM} (h : HB g μ a0) (ha : g a0 = 1) (hF : Fr l c s g μ m) (hd : md [267, 12292] l = true) : HB g m a0 := by
  have e : m.1 a0 10 = μ.1 a0 10 := hF.fld hd ha (by decide) (by decide)
  rcases h with h | ⟨fi, t, h1, h2, h3, h4⟩
  · exact Or.inl (e.trans h)
  · exact Or.inr ⟨fi, t, e.trans h1, h2, (hF.fld hd h2 (by decide) (by decide)).trans h3, h4⟩
theorem HB.go {a0 : Nat} {g g2 : Nat → Nat} {m : eM} (h : HB g m a0) (hG : GP g g2) : HB g2 m a0 := by
  rcases h with h | ⟨fi, t, h1, h2, h3, h4⟩
  · exact Or.inl h
  · refine Or.inr ⟨fi, t, h1, ?_, h3, ?_⟩
    · rcases hG.2 fi (by omega) with q | q | q <;> omega
    · rcases hG.2 t (by omega) with q | q | q <;> omega
theorem GP.k {g g2 : Nat → Nat} {a ρ : Nat} (h : GP g g2) (ha : g a = ρ) (h0 : ρ ≠ 0) (h2 : ρ ≠ 2) (h12 : ρ ≠ 12) : g2 a = ρ := by
  rcases h.2 a (by omega) with q | q | q <;> omega
theorem GP.r {g : Nat → Nat} (h : g 0 = 0) : GP g g := ⟨h, fun _ _ => Or.inl rfl⟩
theorem lw_sc {L : Nat} {ρ : Nat → Int} {μ : eM} {i : Int} (hL : L ≤ 4096) (h0 : 0 ≤ i) (h1 : i < (L : Int)) : ev_al (dt_fg L ρ) μ 100 1 i = some (ρ i.toNat) := by
  have hw : ev_w i = i := ev_w_in (by omega) (by omega)
  unfold ev_al
  rw [if_pos (by omega), hw]
  have e : dt_fg L ρ 1 = (100, L, ρ) := if_pos rfl
  rw [e, if_pos ⟨by omega, rfl, h0, h1⟩]
