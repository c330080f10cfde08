/-! FRAMES: what a call may have written, by region (256 r) and field (256 r + k + 1); rooms -/
def mc (x : Nat) : List Nat → Bool
  | [] => false
  | e :: l => bif Nat.beq x e then true else mc x l
def ms : List Nat → List Nat → Bool
  | [], _ => true
  | e :: l, l2 => bif mc e l2 then ms l l2 else false
theorem mc_in {x : Nat} : ∀ {l : List Nat}, mc x l = true → x ∈ l := by
  intro l
  induction l with
  | nil => intro h; cases h
  | cons e l ih =>
    intro h
    unfold mc at h
    cases hb : Nat.beq x e with
    | true => rw [Nat.eq_of_beq_eq_true hb]; exact List.mem_cons_self
    | false => rw [hb] at h; exact List.mem_cons_of_mem _ (ih h)
theorem mc_no {x : Nat} : ∀ {l : List Nat}, mc x l = false → x ∉ l := by
  intro l
  induction l with
  | nil => intro _ h; cases h
  | cons e l ih =>
    intro h h2
    unfold mc at h
    cases hb : Nat.beq x e with
    | true => rw [hb] at h; cases h
    | false =>
      rw [hb] at h
      rcases List.mem_cons.mp h2 with q | q
      · subst q
        rw [Nat.beq_refl] at hb
        cases hb
      · exact ih h q
theorem ms_in : ∀ {l l2 : List Nat}, ms l l2 = true → ∀ e ∈ l, e ∈ l2 := by
  intro l
  induction l with
  | nil => intro l2 _ e h; cases h
  | cons x l ih =>
    intro l2 h e he
    unfold ms at h
    cases hb : mc x l2 with
    | false => rw [hb] at h; cases h
    | true =>
      rw [hb] at h
      rcases List.mem_cons.mp he with q | q
      · rw [q]
        exact mc_in hb
      · exact ih h e q
/-- a row's places have one code, a field its own -/
def fc (r k : Nat) : Nat := if 100 ≤ (RK r).1 then 256 * r else 256 * r + k % 255 + 1
def Fr (l : List Nat) (c s : Nat) (g : Nat → Nat) (μ μ2 : eM) : Prop := μ2.2.1.length ≤ μ.2.1.length + c ∧ μ2.2.2 ≤ μ.2.2 + s ∧ ∀ a k : Nat, g a ≠ 0 → fc (g a) k ∉ l → μ2.1 a k = μ.1 a k
theorem Fr.r {l : List Nat} {g : Nat → Nat} {μ : eM} : Fr l 0 0 g μ μ := ⟨Nat.le_refl _, Nat.le_refl _, fun _ _ _ _ => rfl⟩
theorem Fr.w {l : List Nat} {c s a k ρ : Nat} {x : Int} {g : Nat → Nat} {μ m m2 : eM} (h : Fr l c s g μ m) (hw : Wr m m2 a k x) (hg : g a = ρ) (hm : mc (fc ρ k) l = true) : Fr l c s g μ m2 := by
  subst hw
  refine ⟨h.1, h.2.1, fun b j hb hn => ?_⟩
  show ev_up m.1 a k x b j = μ.1 b j
  rw [u_eq, if_neg, h.2.2 b j hb hn]
  rintro ⟨rfl, rfl⟩
  rw [hg] at hn
  exact hn (mc_in hm)
theorem fc_row {r k : Nat} (h : Nat.ble 100 (RK r).1 = true) : fc r k = 256 * r := if_pos (Nat.ble_eq.mp h)
/-- a row's place -/
theorem Fr.v {l : List Nat} {c s a k ρ : Nat} {x : Int} {g : Nat → Nat} {μ m m2 : eM} (h : Fr l c s g μ m) (hw : Wr m m2 a k x) (hg : g a = ρ) (hr : Nat.ble 100 (RK ρ).1 = true) (hm : mc (256 * ρ) l = true) : Fr l c s g μ m2 := h.w hw hg (by rw [fc_row hr]; exact hm)
theorem Fr.t {l l2 : List Nat} {c s c2 s2 : Nat} {g : Nat → Nat} {μ m m2 : eM} (h : Fr l c s g μ m) (h2 : Fr l2 c2 s2 g m m2) (hm : ms l2 l = true) : Fr l (c + c2) (s + s2) g μ m2 := by
  obtain ⟨e1, e2, e3⟩ := h
  obtain ⟨f1, f2, f3⟩ := h2
  refine ⟨by omega, by omega, fun a k ha hn => ?_⟩
  rw [f3 a k ha (fun q => hn (ms_in hm _ q)), e3 a k ha hn]
theorem Fr.k {l : List Nat} {c s a k ρ : Nat} {v : Int} {g : Nat → Nat} {m m2 : eM} (h : Fr l c s g m m2) (hv : m.1 a k = v) (hg : g a = ρ) (h0 : ρ ≠ 0) (hm : mc (fc ρ k) l = false) : m2.1 a k = v := by
  subst hg
  rw [h.2.2 a k h0 (mc_no hm)]
  exact hv
theorem Fr.kr {l : List Nat} {c s a k ρ : Nat} {v : Int} {g : Nat → Nat} {m m2 : eM} (h : Fr l c s g m m2) (hv : m.1 a k = v) (hg : g a = ρ) (h0 : ρ ≠ 0) (hr : Nat.ble 100 (RK ρ).1 = true) (hm : mc (256 * ρ) l = false) : m2.1 a k = v := h.k hv hg h0 (by rw [fc_row hr]; exact hm)
theorem SI.pk {g : Nat → Nat} {μ : eM} {a ρ k c n : Nat} {lo hi : Int} (h : SI g μ) (hg : g a = ρ) (h0 : ρ ≠ 0) (hk : RK ρ = (c, n)) (hl : Nat.ble (k + 1) n = true) (hd : SD ρ k = .inl (lo, hi)) : ∃ v : Int, μ.1 a k = v ∧ lo ≤ v ∧ v ≤ hi := ⟨_, rfl, h.int hg h0 hk (Nat.ble_eq.mp hl) hd⟩
theorem Fr.o {a k ρ : Nat} {x : Int} {g : Nat → Nat} {m m2 : eM} (hw : Wr m m2 a k x) (hg : g a = ρ) (hr : Nat.ble 100 (RK ρ).1 = true) : Fr [256 * ρ] 0 0 g m m2 := Fr.r.v hw hg hr (by show (bif Nat.beq (256 * ρ) (256 * ρ) then true else _) = true; rw [Nat.beq_refl]; rfl)
theorem Fr.f {a k ρ : Nat} {x : Int} {g : Nat → Nat} {m m2 : eM} (hw : Wr m m2 a k x) (hg : g a = ρ) : Fr [fc ρ k] 0 0 g m m2 := Fr.r.w hw hg (by show (bif Nat.beq (fc ρ k) (fc ρ k) then true else _) = true; rw [Nat.beq_refl]; rfl)
/-- lists without a common code -/
def md : List Nat → List Nat → Bool
  | [], _ => true
  | e :: l, l2 => bif mc e l2 then false else md l l2
theorem md_no : ∀ {l l2 : List Nat}, md l l2 = true → ∀ e ∈ l, e ∉ l2 := by
  intro l
  induction l with
  | nil => intro l2 _ e h; cases h
  | cons x l ih =>
    intro l2 h e he
    unfold md at h
    cases hb : mc x l2 with
    | true => rw [hb] at h; cases h
    | false =>
      rw [hb] at h
      rcases List.mem_cons.mp he with q | q
      · rw [q]
        exact mc_no hb
      · exact ih h e q
/-- a row's content, a field -/
theorem Fr.row {l D : List Nat} {c s a ρ : Nat} {g : Nat → Nat} {m m2 : eM} (h : Fr l c s g m m2) (hd : md D l = true) (hg : g a = ρ) (h0 : ρ ≠ 0) (hr : Nat.ble 100 (RK ρ).1 = true) (hD : 256 * ρ ∈ D) : m2.1 a = m.1 a := by
  funext k
  subst hg
  exact h.2.2 a k h0 (by rw [fc_row hr]; exact md_no hd _ hD)
theorem Fr.fld {l D : List Nat} {c s a k ρ : Nat} {g : Nat → Nat} {m m2 : eM} (h : Fr l c s g m m2) (hd : md D l = true) (hg : g a = ρ) (h0 : ρ ≠ 0) (hD : fc ρ k ∈ D) : m2.1 a k = m.1 a k := by
  subst hg
  exact h.2.2 a k h0 (md_no hd _ hD)
