/-! A PATCH GROWS: its region changes, its rows are made anew one after another -/
def GP (g g2 : Nat → Nat) : Prop := g2 0 = 0 ∧ ∀ a, g a ≠ 0 → g2 a = g a ∨ (g a = 2 ∧ g2 a = 7) ∨ (g a = 12 ∧ g2 a = 15)
theorem GE.p {g g2 : Nat → Nat} (h : GE g g2) : GP g g2 := ⟨h.1, fun a ha => Or.inl (h.2 a ha)⟩
theorem GP.t {g g1 g2 : Nat → Nat} (h : GP g g1) (h2 : GP g1 g2) : GP g g2 := ⟨h2.1, fun a ha => by
  rcases h.2 a ha with e | ⟨e, e2⟩ | ⟨e, e2⟩
  · rcases h2.2 a (by omega) with f | ⟨f, f2⟩ | ⟨f, f2⟩ <;> omega
  · rcases h2.2 a (by omega) with f | ⟨f, f2⟩ | ⟨f, f2⟩ <;> omega
  · rcases h2.2 a (by omega) with f | ⟨f, f2⟩ | ⟨f, f2⟩ <;> omega⟩
theorem GP.g {g g2 : Nat → Nat} {a ρ : Nat} (h : GP g g2) (hg : g a = ρ) (h0 : ρ ≠ 0) (h2 : ρ ≠ 2) (h3 : ρ ≠ 12) : g2 a = ρ := by
  rcases h.2 a (by omega) with e | ⟨e, -⟩ | ⟨e, -⟩ <;> omega
theorem GP.s {g g2 : Nat → Nat} {a : Nat} (h : GP g g2) (hg : g a = 2) : g2 a = 2 ∨ g2 a = 7 := by
  rcases h.2 a (by omega) with e | ⟨e, e2⟩ | ⟨e, e2⟩ <;> omega
theorem GP.q {g g2 : Nat → Nat} {a : Nat} (h : GP g g2) (hg : g a = 12) : g2 a = 12 ∨ g2 a = 15 := by
  rcases h.2 a (by omega) with e | ⟨e, e2⟩ | ⟨e, e2⟩ <;> omega
/-- frames where regions change: the codes of both sizes -/
theorem Fr.p {l l2 : List Nat} {c s c2 s2 : Nat} {g g3 : Nat → Nat} {μ m m2 : eM} (h : Fr l c s g μ m) (hE : GP g g3) (h2 : Fr l2 c2 s2 g3 m m2) (hm : ms l2 l = true) (hb : ∀ k, fc 7 k ∈ l → fc 2 k ∈ l) (hb2 : ∀ k, fc 15 k ∈ l → fc 12 k ∈ l) : Fr l (c + c2) (s + s2) g μ m2 := by
  obtain ⟨e1, e2, e3⟩ := h
  obtain ⟨f1, f2, f3⟩ := h2
  refine ⟨by omega, by omega, fun a k ha hn => ?_⟩
  rw [f3 a k (by rcases hE.2 a ha with e | ⟨e, e2⟩ | ⟨e, e2⟩ <;> omega) (fun q => hn ?_), e3 a k ha hn]
  have q2 := ms_in hm _ q
  rcases hE.2 a ha with e | ⟨e, e2⟩ | ⟨e, e2⟩
  · rw [← e]
    exact q2
  · rw [e2] at q2
    rw [e]
    exact hb k q2
  · rw [e2] at q2
    rw [e]
    exact hb2 k q2
/-- all but some slots of one object are as their regions say -/
def SH (H : List Nat) (x : Nat) (g : Nat → Nat) (μ : eM) : Prop := g 0 = 0 ∧ (∀ a : Nat, g a ≠ 0 → ev_kn μ a = some (RK (g a))) ∧ (∀ a k : Nat, g a ≠ 0 → k < (RK (g a)).2 → (a = x → k ∉ H) → hOk g (SD (g a) k) (μ.1 a k)) ∧ ∀ a b : Nat, 52 ≤ g a → g a = g b → a = b
theorem SH.out {x : Nat} {g : Nat → Nat} {μ : eM} (h : SH [] x g μ) : SI g μ := ⟨h.1, h.2.1, fun a k ha hk => h.2.2.1 a k ha hk (fun _ q => by cases q), h.2.2.2⟩
theorem SH.kn {H : List Nat} {x a ρ : Nat} {g : Nat → Nat} {μ : eM} (h : SH H x g μ) (hg : g a = ρ) (h0 : ρ ≠ 0) : ev_kn μ a = some (RK ρ) := by
  subst hg
  exact h.2.1 a h0
theorem SH.kd {H : List Nat} {x a ρ c n : Nat} {g : Nat → Nat} {μ : eM} (h : SH H x g μ) (hg : g a = ρ) (h0 : ρ ≠ 0) (hk : RK ρ = (c, n)) : ev_kd μ a = some c := kn_kd (hk ▸ h.kn hg h0)
theorem SH.pos {H : List Nat} {x a ρ : Nat} {g : Nat → Nat} {μ : eM} (h : SH H x g μ) (hg : g a = ρ) (h0 : ρ ≠ 0) : 0 < a := by
  rcases Nat.eq_zero_or_pos a with q | q
  · subst q
    exact absurd (hg.symm.trans h.1) h0
  · exact q
theorem SH.int {H : List Nat} {x a ρ k c n : Nat} {lo hi : Int} {g : Nat → Nat} {μ : eM} (h : SH H x g μ) (hg : g a = ρ) (h0 : ρ ≠ 0) (hk : RK ρ = (c, n)) (hl : k < n) (hx : a = x → k ∉ H) (hd : SD ρ k = .inl (lo, hi)) : lo ≤ μ.1 a k ∧ μ.1 a k ≤ hi := by
  subst hg
  have h1 := h.2.2.1 a k h0 (by rw [hk]; exact hl) hx
  rw [hd] at h1
  exact h1
/-- the region of one object changes; the slots that differ are left out -/
theorem SI.sh {g : Nat → Nat} {μ : eM} {x ρ ρ2 : Nat} {H : List Nat} (h : SI g μ) (hg : g x = ρ) (h0 : ρ ≠ 0) (h2 : ρ2 ≠ 0) (h52 : ρ2 < 52) (h53 : ρ < 52) (hk : RK ρ2 = RK ρ) (hr : ∀ r k P, SD r k = .inr P → P ρ = true → P ρ2 = true) (hs : ∀ k, k < (RK ρ).2 → k ∉ H → ∀ w, hOk g (SD ρ k) w → hOk g (SD ρ2 k) w) : SH H x (gs g x ρ2) μ := by
  have e : ∀ a, a ≠ x → gs g x ρ2 a = g a := fun a ha => if_neg ha
  have ex : gs g x ρ2 x = ρ2 := if_pos rfl
  have hO : ∀ r k w, hOk g (SD r k) w → hOk (gs g x ρ2) (SD r k) w := by
    intro r k w hw
    cases hD : SD r k with
    | inl b => rw [hD] at hw; exact hw
    | inr P =>
      rw [hD] at hw
      obtain ⟨a, h3, h4, h5⟩ := hw
      by_cases q : a = x
      · subst q
        rw [hg] at h4
        exact ⟨a, h3, by rw [ex]; exact hr r k P hD h4, fun q2 => absurd (ex.symm.trans q2) h2⟩
      · exact ⟨a, h3, by rw [e a q]; exact h4, fun q2 => h5 ((e a q).symm.trans q2)⟩
  have hx0 : x ≠ 0 := fun q => by rw [q, h.1] at hg; exact h0 hg.symm
  refine ⟨(e 0 (fun q => hx0 q.symm)).trans h.1, fun a ha => ?_, fun a k ha hk2 hn => ?_, fun a b ha hab => ?_⟩
  · by_cases q : a = x
    · subst q
      rw [ex, hk, ← hg]
      exact h.2.1 a (by omega)
    · rw [e a q] at ha ⊢
      exact h.2.1 a ha
  · by_cases q : a = x
    · subst q
      rw [ex] at hk2 ⊢
      rw [hk] at hk2
      have h9 := h.2.2.1 a k (by omega) (by rw [hg]; exact hk2)
      rw [hg] at h9
      exact hO _ _ _ (hs k hk2 (hn rfl) _ h9)
    · rw [e a q] at ha hk2 ⊢
      exact hO _ _ _ (h.2.2.1 a k ha hk2)
  · by_cases q : a = x
    · subst q
      rw [ex] at ha
      omega
    · rw [e a q] at ha hab
      by_cases q2 : b = x
      · subst q2
        rw [ex] at hab
        omega
      · rw [e b q2] at hab
        exact h.2.2.2 a b ha hab
theorem SH.nw {H : List Nat} {x ρ c n : Nat} {g : Nat → Nat} {μ : eM} {lo hi : Int} (h : SH H x g μ) (hk : RK ρ = (c, n)) (h0 : ρ ≠ 0) (h52 : ρ < 52) (hd : ∀ k, SD ρ k = .inl (lo, hi)) (hz : lo ≤ 0 ∧ 0 ≤ hi) : ∃ g2 : Nat → Nat, SH H x g2 (ev_nw μ c n) ∧ GE g g2 ∧ g2 (μ.2.1.length + 64) = ρ ∧ Fr [] 1 n g μ (ev_nw μ c n) ∧ ∀ k, (ev_nw μ c n).1 (μ.2.1.length + 64) k = 0 := by
  have hne : ∀ a, g a ≠ 0 → a ≠ μ.2.1.length + 64 := fun a ha => kn_ne (h.2.1 a ha)
  have e : ∀ a, a ≠ μ.2.1.length + 64 → gs g (μ.2.1.length + 64) ρ a = g a := fun a ha => if_neg ha
  have ex : gs g (μ.2.1.length + 64) ρ (μ.2.1.length + 64) = ρ := if_pos rfl
  have hE : GE g (gs g (μ.2.1.length + 64) ρ) := ⟨(e 0 (by omega)).trans h.1, fun a ha => e a (hne a ha)⟩
  refine ⟨gs g (μ.2.1.length + 64) ρ, ⟨hE.1, fun a ha => ?_, fun a k ha hk2 hn => ?_, fun a b ha hab => ?_⟩, hE, ex, ⟨?_, Nat.le_refl _, fun a k ha _ => nw_sl (hne a ha)⟩, fun k => nw_0⟩
  · by_cases q : a = μ.2.1.length + 64
    · subst q
      rw [ex, kn_new, hk]
    · rw [e a q] at ha ⊢
      exact kn_nw (h.2.1 a ha)
  · by_cases q : a = μ.2.1.length + 64
    · subst q
      rw [ex, nw_0]
      exact hO_i (hd k) hz
    · rw [e a q] at ha hk2 ⊢
      rw [nw_sl q]
      exact (h.2.2.1 a k ha hk2 hn).ge hE
  · by_cases q : a = μ.2.1.length + 64
    · subst q
      rw [ex] at ha
      omega
    · rw [e a q] at ha hab
      by_cases q2 : b = μ.2.1.length + 64
      · subst q2
        rw [ex] at hab
        omega
      · rw [e b q2] at hab
        exact h.2.2.2 a b ha hab
  · show (μ.2.1 ++ [(c, n)]).length ≤ _
    rw [List.length_append]
    exact Nat.le_refl _
/-- the first places of a row into a new one of another region -/
theorem SH.cp {H : List Nat} {x q r ρ ρ2 k n n2 : Nat} {g : Nat → Nat} {μ : eM} {lo hi lo2 hi2 : Int} (h : SH H x g μ) (hq : g q = ρ) (hr : g r = ρ2) (h0 : ρ ≠ 0) (h02 : ρ2 ≠ 0) (hk : RK ρ = (k, n)) (hk2 : RK ρ2 = (k, n2)) (hd : ∀ j, SD ρ j = .inl (lo, hi)) (hd2 : ∀ j, SD ρ2 j = .inl (lo2, hi2)) (hlo : lo2 ≤ lo) (hhi : hi ≤ hi2) (hqx : q ≠ x) (hrx : r ≠ x) : SH H x g (ev_ur μ.1 r (ev_cp (μ.1 q) (μ.1 r) n), μ.2) := by
  refine ⟨h.1, h.2.1, fun b j hb hj hn => ?_, h.2.2.2⟩
  show hOk g (SD (g b) j) (ev_ur μ.1 r (ev_cp (μ.1 q) (μ.1 r) n) b j)
  unfold ev_ur
  by_cases hbr : b = r
  · rw [if_pos hbr]
    subst hbr
    rw [hr, hd2]
    rw [hr, hk2] at hj
    show lo2 ≤ _ ∧ _ ≤ hi2
    unfold ev_cp
    split
    · rename_i h9
      have := h.int hq h0 hk h9 (fun z => absurd z hqx) (hd _)
      omega
    · exact h.int hr h02 hk2 hj (fun z => absurd z hrx) (hd2 _)
  · rw [if_neg hbr]
    exact h.2.2.1 b j hb hj hn
theorem SH.put {H : List Nat} {x k ρ : Nat} {g : Nat → Nat} {μ m : eM} {w : Int} (h : SH (k :: H) x g μ) (hg : g x = ρ) (hw : Wr μ m x k w) (ho : hOk g (SD ρ k) w) : SH H x g m := by
  subst hw
  refine ⟨h.1, h.2.1, fun b j hb hj hn => ?_, h.2.2.2⟩
  show hOk g (SD (g b) j) (ev_up μ.1 x k w b j)
  rw [u_eq]
  split
  · rename_i q
    obtain ⟨q1, q2⟩ := q
    subst q1
    subst q2
    rw [hg]
    exact ho
  · rename_i q
    exact h.2.2.1 b j hb hj (fun hbx hjk => by
      rcases List.mem_cons.mp hjk with z | z
      · exact q ⟨hbx, z⟩
      · exact hn hbx z)
def rck (a b r k : Nat) : Bool := match SD r k with
  | .inl _ => true
  | .inr P => bif P a then P b else true
theorem rck_ok {a b r k : Nat} {P : Nat → Bool} (h : rck a b r k = true) (hd : SD r k = .inr P) (h2 : P a = true) : P b = true := by
  unfold rck at h
  rw [hd] at h
  dsimp only at h
  rw [h2] at h
  exact h
theorem rck_2 : ∀ r, r < 90 → ∀ k, k < 70 → rck 2 7 r k = true := by decide +kernel
theorem rck_12 : ∀ r, r < 90 → ∀ k, k < 70 → rck 12 15 r k = true := by decide +kernel
theorem SD_r {r k : Nat} (h : 90 ≤ r) : SD r k = .inl (0, 0) := by
  unfold SD
  split <;> first | omega | rfl
set_option maxHeartbeats 4000000 in
theorem SD_k {r k : Nat} (h : 70 ≤ k) : ∃ b, SD r k = .inl b := by
  unfold SD
  split <;> first | exact ⟨_, rfl⟩ | skip
  · unfold SD_1
    split <;> first | omega | exact ⟨_, rfl⟩
  · unfold SD_2
    split <;> first | omega | exact ⟨_, rfl⟩
  · unfold SD_7
    split <;> first | omega | exact ⟨_, rfl⟩
  · unfold SD_12
    split <;> first | omega | exact ⟨_, rfl⟩
  · unfold SD_15
    split <;> first | omega | exact ⟨_, rfl⟩
  · unfold SD_18
    split <;> first | omega | exact ⟨_, rfl⟩
  · unfold SD_20
    split <;> first | omega | exact ⟨_, rfl⟩
  · unfold SD_24
    split <;> first | omega | exact ⟨_, rfl⟩
  · unfold SD_27
    split <;> first | omega | exact ⟨_, rfl⟩
  · unfold SD_29
    split <;> first | omega | exact ⟨_, rfl⟩
  · unfold SD_35
    split <;> first | omega | exact ⟨_, rfl⟩
  · unfold SD_42
    split <;> first | omega | exact ⟨_, rfl⟩
  · unfold SD_48
    split <;> first | omega | exact ⟨_, rfl⟩
  · unfold SD_52
    split <;> first | omega | exact ⟨_, rfl⟩
  · cases hb : Nat.ble 890 k with
    | true => exact ⟨_, rfl⟩
    | false => exact ⟨_, rfl⟩
theorem ref_of {a b : Nat} (h : ∀ r, r < 90 → ∀ k, k < 70 → rck a b r k = true) : ∀ r k P, SD r k = .inr P → P a = true → P b = true := by
  intro r k P hd h2
  by_cases hr : r < 90
  · by_cases hk : k < 70
    · exact rck_ok (h r hr k hk) hd h2
    · obtain ⟨b', e⟩ := SD_k (r := r) (show 70 ≤ k by omega)
      rw [hd] at e
      cases e
  · rw [SD_r (by omega)] at hd
    cases hd
theorem k_len {fg : eG} {rc : eQ} {d y pc np a b t pl c0 c n : Nat} {x : Int} {lv : List (Option eV)} {st : List eV} {F : List eFr} {μ : eM} (hr : (dt_co y).get pc = (pc, .arraylength, 1, (c0, b, t, pl), x)) (hp : pc + 1 = np) (h3 : ev_kn μ a = some (c, n)) (hc : Nat.ble 100 c = true) (hc2 : Nat.ble c 103 = true) (K : ex_q fg rc (d, (y, np, lv, eI (n : Int) :: st), F, μ)) : ex_q fg rc (d, (y, pc, lv, eR a :: st), F, μ) := by
  subst hp
  have h5 : ev_ln fg μ a = some n := by
    unfold ev_kn at h3
    unfold ev_ln
    split at h3
    · cases h3
    · rename_i h4
      rw [if_neg h4, h3]
      dsimp only
      rw [if_pos ⟨Nat.ble_eq.mp hc, Nat.ble_eq.mp hc2⟩]
  refine ex_q_1 (xs_m (st' := eI (n : Int) :: st) (μ' := μ) hr rfl ?_) K
  simp only [ev_m, h5]
theorem x_na {fg : eG} {rc : eQ} {d y pc np a b t pl n : Nat} {x : Int} {ty : Jvm.ClassFile.ArrayType} {lv : List (Option eV)} {st : List eV} {F : List eFr} {μ : eM} (hr : (dt_co y).get pc = (pc, .newarray ty, 2, (a, b, t, pl), x)) (hp : pc + 2 = np) (hn : Nat.ble n 1000000 = true) (K : ex_q fg rc (d, (y, np, lv, eR (μ.2.1.length + 64) :: st), F, ev_nw μ a n)) : ex_q fg rc (d, (y, pc, lv, eI (n : Int) :: st), F, μ) := by
  subst hp
  have hn := Nat.ble_eq.mp hn
  have e1 : ev_w (n : Int) = n := ev_w_in (by omega) (by omega)
  refine ex_q_1 (xs_m (st' := eR (μ.2.1.length + 64) :: st) (μ' := ev_nw μ a n) hr rfl ?_) K
  show (if 0 ≤ ev_w (n : Int) ∧ ev_w (n : Int) ≤ 1000000 then some (eR (μ.2.1.length + 64) :: st, ev_nw μ a (ev_w (n : Int)).toNat) else none) = _
  rw [e1, if_pos ⟨by omega, by omega⟩, Int.toNat_natCast]
theorem x_cp {fg : eG} {rc : eQ} {d y pc np b t pl idx q r k n n0 n2 : Nat} {x : Int} {lv : List (Option eV)} {st : List eV} {F : List eFr} {μ : eM} (hrow : (dt_co y).get pc = (pc, .invokestatic idx, 3, (23, b, t, pl), x)) (hp : pc + 3 = np) (e1 : ev_kn μ q = some (k, n0)) (e2 : ev_kn μ r = some (k, n2)) (hk2 : k = 100 ∨ k = 101) (h0 : Nat.ble n n0 = true) (h1 : Nat.ble n n2 = true) (hn : Nat.ble n 1000000 = true) (h6 : Nat.ble (st.map ev_cat).sum 8 = true) (K : ex_q fg rc (d + 1, (y, np, lv, st), F, (ev_ur μ.1 r (ev_cp (μ.1 q) (μ.1 r) n), μ.2))) : ex_q fg rc (d + 1, (y, pc, lv, eI (n : Int) :: eI 0 :: eR r :: eI 0 :: eR q :: st), F, μ) := by
  subst hp
  have h0 := Nat.ble_eq.mp h0
  have h1 := Nat.ble_eq.mp h1
  have hn := Nat.ble_eq.mp hn
  have w1 : ev_w 0 = 0 := ev_w_in (by omega) (by omega)
  have w3 : ev_w (n : Int) = n := ev_w_in (by omega) (by omega)
  refine ex_q_1 (xs_o (st' := st) (μ' := (ev_ur μ.1 r (ev_cp (μ.1 q) (μ.1 r) (ev_w (n : Int)).toNat), μ.2)) hrow rfl ?_) ?_
  · show (if 23 = 23 ∧ 0 < d + 1 ∧ (st.map ev_cat).sum ≤ 8 ∧ ev_w 0 = 0 ∧ ev_w 0 = 0 ∧ 0 ≤ ev_w (n : Int) then (match ev_kn μ q, ev_kn μ r with
      | some (k0, n0), some (k1, n2) => if k0 = k1 ∧ (k1 = 100 ∨ k1 = 101) ∧ ev_w (n : Int) ≤ (n0 : Int) ∧ ev_w (n : Int) ≤ (n2 : Int) then some (st, (ev_ur μ.1 r (ev_cp (μ.1 q) (μ.1 r) (ev_w (n : Int)).toNat), μ.2)) else none
      | _, _ => none) else _) = _
    rw [if_pos ⟨rfl, by omega, Nat.ble_eq.mp h6, w1, w1, by omega⟩, e1, e2]
    dsimp only
    rw [if_pos ⟨rfl, hk2, by omega, by omega⟩]
  · rw [w3, Int.toNat_natCast]
    exact K
