/-! STEPS, corners of a rhomb, directions between them -/
def sS (d c : Int) : Int := (dt_sv 21).getD (4 * (d % 10) + c).toNat 0
theorem h_iremq {a k : Int} (hk : 0 < k) (hk2 : k < 2147483648) (ha : -2147483648 ≤ a ∧ a ≤ 2147483647) : ∃ v : Int, (∀ (lv : List (Option eV)) (st : List eV), ev_s .irem lv (eI k :: eI a :: st) = some (lv, eI v :: st)) ∧ ((0 ≤ a → v = a % k) ∧ -k < v ∧ v < k ∧ (0 ≤ a → 0 ≤ v ∧ v ≤ a) ∧ (a ≤ 0 → a ≤ v ∧ v ≤ 0)) ∧ ∃ q : Int, a = k * q + v := by
  obtain ⟨v, h1, h2⟩ := h_irem hk hk2 ha
  refine ⟨v, h1, h2, a.tdiv k, ?_⟩
  have e1 := h1 [] []
  have w1 : ev_w k = k := ev_w_in (by omega) (by omega)
  have w2 : ev_w a = a := ev_w_in (by omega) (by omega)
  have e3 : k ≠ 0 := by omega
  have e2 : ev_s .irem [] (eI k :: eI a :: []) = some ([], eI (Int.tmod a k) :: []) := by simp [ev_s, ev_bII, eI, w1, w2, e3]
  rw [e2] at e1
  have e4 : Int.tmod a k = v := by
    have h5 := congrArg (fun z => match z with
      | some (_, (Sum.inl (Sum.inl x) :: _)) => x
      | _ => (0 : Int)) e1
    exact h5
  rw [← e4, Int.tmod_def]
  omega
theorem sS_b : ∀ d, d < 10 → ∀ c, c < 4 → (-1 ≤ sS (d : Nat) (c : Nat) ∧ sS (d : Nat) (c : Nat) ≤ 1) := by decide +kernel
theorem sS_5 : ∀ d, d < 10 → ∀ c, c < 4 → sS (((d : Nat) : Int) + 5) (c : Nat) = - sS (d : Nat) (c : Nat) := by decide +kernel
theorem sS_m (d c : Int) : sS (d % 10) c = sS d c := by
  unfold sS
  rw [Int.emod_emod_of_dvd d (Int.dvd_refl 10)]
/-- from one corner to another one it is a step in direction D -/
def DM (R : Nat → Int) (a1 a2 D : Int) : Prop := (0 ≤ D ∧ D ≤ 9) ∧ ∀ c : Nat, c < 4 → ev_w (R (a2.toNat + c) - R (a1.toNat + c)) = sS D c
theorem dm_n {R : Nat → Int} {a1 a2 D d p q v s i1 i2 : Int} (c : Nat) (hD : DM R a1 a2 D) (hc : c < 4) (h1 : 0 ≤ a1) (h2 : 0 ≤ a2) (hi1 : i1 = a1 + c) (hi2 : i2 = a2 + c) (ep : R i2.toNat = p) (eq : R i1.toNat = q) (ev : ev_w (p - q) = v) (es : s = sS d c) (hne : ¬ v = s) (hle : d ≤ D) : d + 1 ≤ D := by
  have h3 := hD.2 c hc
  rw [show a2.toNat + c = i2.toNat by omega, show a1.toNat + c = i1.toNat by omega, ep, eq, ev] at h3
  by_cases h : d = D
  · subst h
    exact absurd (h3.trans es.symm) hne
  · omega
/-- a rhomb's corners: the steps D and E from its A -/
def CRr (R : Nat → Int) : Prop := ∃ D E : Int, (0 ≤ D ∧ D ≤ 9) ∧ (0 ≤ E ∧ E ≤ 9) ∧ DM R 0 4 D ∧ DM R 4 8 E ∧ DM R 12 8 D ∧ DM R 0 12 E
def CR (g : Nat → Nat) (μ : eM) : Prop := ∀ r : Nat, g r = 83 → CRr (μ.1 r)
theorem CR.fr {l : List Nat} {c s : Nat} {g : Nat → Nat} {μ m : eM} (h : CR g μ) (hF : Fr l c s g μ m) (hd : md [21248] l = true) : CR g m := by
  intro r hr
  rw [hF.row hd hr (by decide) rfl (by decide)]
  exact h r hr
theorem DM.rev {R : Nat → Int} {a b D : Int} (h : DM R a b D) : DM R b a ((D + 5) % 10) := by
  refine ⟨by omega, fun c hc => ?_⟩
  have h1 := h.2 c hc
  obtain ⟨n, rfl⟩ : ∃ n : Nat, D = (n : Int) := ⟨D.toNat, by have := h.1; omega⟩
  have hn : n < 10 := by have := h.1; omega
  have h2 := sS_b n hn c hc
  rw [sS_m, sS_5 n hn c hc, ← h1]
  have h3 : ev_w (R (b.toNat + c) - R (a.toNat + c)) = sS n c := h1
  unfold ev_w at h3 ⊢
  omega
theorem CRr.d {R : Nat → Int} (h : CRr R) {i a b : Int} (hi : 0 ≤ i ∧ i ≤ 3) (ha : a = 4 * i) (hb : b = 4 * ((i + 1) % 4)) : (∃ D, DM R a b D) ∧ ∃ D, DM R b a D := by
  obtain ⟨D, E, -, -, h1, h2, h3, h4⟩ := h
  rcases (show i = 0 ∨ i = 1 ∨ i = 2 ∨ i = 3 by omega) with q | q | q | q
  · subst q
    cases (show a = 0 by omega)
    cases (show b = 4 by omega)
    exact ⟨⟨_, h1⟩, ⟨_, h1.rev⟩⟩
  · subst q
    cases (show a = 4 by omega)
    cases (show b = 8 by omega)
    exact ⟨⟨_, h2⟩, ⟨_, h2.rev⟩⟩
  · subst q
    cases (show a = 8 by omega)
    cases (show b = 12 by omega)
    exact ⟨⟨_, h3.rev⟩, ⟨_, h3⟩⟩
  · subst q
    cases (show a = 12 by omega)
    cases (show b = 0 by omega)
    exact ⟨⟨_, h4.rev⟩, ⟨_, h4⟩⟩
/-- the corners as they are reckoned -/
theorem CRr.mk {R P : Nat → Int} {d e : Int} (h0 : ∀ c : Nat, c < 4 → R c = P c) (h1 : ∀ c : Nat, c < 4 → R (4 + c) = ev_w (P c + sS d c)) (h3 : ∀ c : Nat, c < 4 → R (12 + c) = ev_w (P c + sS e c)) (h2 : ∀ c : Nat, c < 4 → R (8 + c) = ev_w (ev_w (R (4 + c) + R (12 + c)) - P c)) : CRr R := by
  have key : ∀ (z : Int) (c : Nat), c < 4 → -1 ≤ sS z c ∧ sS z c ≤ 1 := by
    intro z c hc
    rw [← sS_m]
    obtain ⟨n, hn⟩ : ∃ n : Nat, z % 10 = (n : Int) := ⟨(z % 10).toNat, by omega⟩
    rw [hn]
    exact sS_b n (by omega) c hc
  refine ⟨d % 10, e % 10, by omega, by omega, ⟨by omega, fun c hc => ?_⟩, ⟨by omega, fun c hc => ?_⟩, ⟨by omega, fun c hc => ?_⟩, ⟨by omega, fun c hc => ?_⟩⟩
  · rw [sS_m]
    show ev_w (R (4 + c) - R (0 + c)) = _
    have k := key d c hc
    rw [Nat.zero_add, h1 c hc, h0 c hc]
    unfold ev_w
    omega
  · rw [sS_m]
    show ev_w (R (8 + c) - R (4 + c)) = _
    have k := key e c hc
    rw [h2 c hc, h1 c hc, h3 c hc]
    unfold ev_w
    omega
  · rw [sS_m]
    show ev_w (R (8 + c) - R (12 + c)) = _
    have k := key d c hc
    rw [h2 c hc, h1 c hc, h3 c hc]
    unfold ev_w
    omega
  · rw [sS_m]
    show ev_w (R (12 + c) - R (0 + c)) = _
    have k := key e c hc
    rw [Nat.zero_add, h3 c hc, h0 c hc]
    unfold ev_w
    omega
theorem CR.in {g : Nat → Nat} {m : eM} {a : Nat} (hI : SI g m) (ha : g a = 83) (h : CRr (m.1 a)) : CR g m := by
  intro r hr
  have e := hI.2.2.2 a r (by omega) (by omega)
  subst e
  exact h
theorem h_ixor3 {a : Int} (h : 0 ≤ a ∧ a ≤ 3) : ∃ v : Int, (∀ (lv : List (Option eV)) (st : List eV), ev_s .ixor lv (eI 1 :: eI a :: st) = some (lv, eI v :: st)) ∧ (0 ≤ v ∧ v ≤ 3) := by
  rcases (show a = 0 ∨ a = 1 ∨ a = 2 ∨ a = 3 by omega) with q | q | q | q
  · subst q
    exact ⟨_, fun _ _ => rfl, by decide⟩
  · subst q
    exact ⟨_, fun _ _ => rfl, by decide⟩
  · subst q
    exact ⟨_, fun _ _ => rfl, by decide⟩
  · subst q
    exact ⟨_, fun _ _ => rfl, by decide⟩
