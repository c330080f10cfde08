/-! A TYPED HEAP: every address has a region (0: none); what its slots hold is the region's -/
def hOk (g : Nat → Nat) (D : hD) (x : Int) : Prop := match D with
  | .inl b => b.1 ≤ x ∧ x ≤ b.2
  | .inr P => ∃ a : Nat, x = (a : Int) ∧ P (g a) = true ∧ (g a = 0 → a = 0)
def SI (g : Nat → Nat) (μ : eM) : Prop := g 0 = 0 ∧ (∀ a : Nat, g a ≠ 0 → ev_kn μ a = some (RK (g a))) ∧ (∀ a k : Nat, g a ≠ 0 → k < (RK (g a)).2 → hOk g (SD (g a) k) (μ.1 a k)) ∧ ∀ a b : Nat, 52 ≤ g a → g a = g b → a = b
theorem SI.kn {g : Nat → Nat} {μ : eM} {a ρ : Nat} (h : SI g μ) (hg : g a = ρ) (h0 : ρ ≠ 0) : ev_kn μ a = some (RK ρ) := by
  subst hg
  exact h.2.1 a h0
theorem kn_kd {μ : eM} {a k n : Nat} (h : ev_kn μ a = some (k, n)) : ev_kd μ a = some k := by
  unfold ev_kn at h
  unfold ev_kd
  split at h
  · cases h
  · rename_i h1
    rw [if_neg h1, h]
    rfl
theorem SI.kd {g : Nat → Nat} {μ : eM} {a ρ c n : Nat} (h : SI g μ) (hg : g a = ρ) (h0 : ρ ≠ 0) (hk : RK ρ = (c, n)) : ev_kd μ a = some c := kn_kd (hk ▸ h.kn hg h0)
theorem SI.sl {g : Nat → Nat} {μ : eM} {a ρ k c n : Nat} (h : SI g μ) (hg : g a = ρ) (h0 : ρ ≠ 0) (hk : RK ρ = (c, n)) (hl : k < n) : hOk g (SD ρ k) (μ.1 a k) := by
  subst hg
  exact h.2.2.1 a k h0 (by rw [hk]; exact hl)
theorem SI.int {g : Nat → Nat} {μ : eM} {a ρ k c n : Nat} {lo hi : Int} (h : SI g μ) (hg : g a = ρ) (h0 : ρ ≠ 0) (hk : RK ρ = (c, n)) (hl : k < n) (hd : SD ρ k = .inl (lo, hi)) : lo ≤ μ.1 a k ∧ μ.1 a k ≤ hi := by
  have h1 := h.sl hg h0 hk hl
  rw [hd] at h1
  exact h1
theorem SI.ref {g : Nat → Nat} {μ : eM} {a ρ k c n : Nat} {P : Nat → Bool} (h : SI g μ) (hg : g a = ρ) (h0 : ρ ≠ 0) (hk : RK ρ = (c, n)) (hl : k < n) (hd : SD ρ k = .inr P) : ∃ b : Nat, μ.1 a k = (b : Int) ∧ P (g b) = true ∧ (g b = 0 → b = 0) := by
  have h1 := h.sl hg h0 hk hl
  rw [hd] at h1
  exact h1
/-- one slot has been written -/
def Wr (μ μ2 : eM) (a k : Nat) (x : Int) : Prop := μ2 = (ev_up μ.1 a k x, μ.2)
theorem Wr.at {μ μ2 : eM} {a k : Nat} {x : Int} (h : Wr μ μ2 a k x) : μ2.1 a k = x := by
  subst h
  show ev_up μ.1 a k x a k = x
  rw [u_eq, if_pos ⟨rfl, rfl⟩]
theorem Wr.slot {μ μ2 : eM} {a k r j : Nat} {x v : Int} (h : Wr μ μ2 a k x) (hv : μ.1 r j = v) (hn : j ≠ k) : μ2.1 r j = v := by
  subst h
  show ev_up μ.1 a k x r j = v
  rw [u_eq, if_neg (fun q => hn q.2)]
  exact hv
theorem Wr.addr {μ μ2 : eM} {a k r j ρ σ : Nat} {x v : Int} {g : Nat → Nat} (h : Wr μ μ2 a k x) (hv : μ.1 r j = v) (h1 : g a = ρ) (h2 : g r = σ) (hn : ρ ≠ σ) : μ2.1 r j = v := by
  subst h
  show ev_up μ.1 a k x r j = v
  rw [u_eq, if_neg (fun q => hn (by rw [← h1, ← h2, q.1]))]
  exact hv
theorem SI.put {g : Nat → Nat} {μ μ2 : eM} {a ρ k : Nat} {x : Int} (h : SI g μ) (hg : g a = ρ) (hw : Wr μ μ2 a k x) (ho : hOk g (SD ρ k) x) : SI g μ2 := by
  subst hw
  refine ⟨h.1, h.2.1, fun b j hb hl => ?_, h.2.2.2⟩
  show hOk g (SD (g b) j) (ev_up μ.1 a k x b j)
  rw [u_eq]
  split
  · rename_i q
    obtain ⟨q1, q2⟩ := q
    subst q1
    subst q2
    rw [hg]
    exact ho
  · exact h.2.2.1 b j hb hl
theorem hO_i {g : Nat → Nat} {ρ k : Nat} {lo hi x : Int} (hd : SD ρ k = .inl (lo, hi)) (h : lo ≤ x ∧ x ≤ hi) : hOk g (SD ρ k) x := by
  rw [hd]
  exact h
theorem hO_r {g : Nat → Nat} {ρ k b : Nat} {P : Nat → Bool} (hd : SD ρ k = .inr P) (h : P (g b) = true) (h2 : g b = 0 → b = 0) : hOk g (SD ρ k) (b : Int) := by
  rw [hd]
  exact ⟨b, rfl, h, h2⟩
/-! rows -/
theorem j_gi {fg : eG} {rc : eQ} {d y pc np a b t pl idx ρ c n : Nat} {x lo hi : Int} {lv : List (Option eV)} {st : List eV} {F : List eFr} {μ : eM} {g : Nat → Nat} (hr : (dt_co y).get pc = (pc, .getfield idx, 3, (c, b, t, pl), x)) (hp : pc + 3 = np) (ht : Nat.ble t 1 = true) (hI : SI g μ) (hg : g a = ρ) (h0 : ρ ≠ 0) (hk : RK ρ = (c, n)) (hl : Nat.ble (b + 1) n = true) (hd : SD ρ b = .inl (lo, hi)) (K : ∀ v : Int, μ.1 a b = v → lo ≤ v ∧ v ≤ hi → ex_q fg rc (d, (y, np, lv, eI v :: st), F, μ)) : ex_q fg rc (d, (y, pc, lv, eR a :: st), F, μ) := by
  refine w_gf (v := eI (μ.1 a b)) hr hp (hI.kd hg h0 hk) ?_ (K _ rfl (hI.int hg h0 hk (Nat.ble_eq.mp hl) hd))
  have ht := Nat.ble_eq.mp ht
  match t, ht with
  | 0, _ => rfl
  | 1, _ => rfl
theorem j_gj {fg : eG} {rc : eQ} {d y pc np a b pl idx ρ c n : Nat} {x lo hi : Int} {lv : List (Option eV)} {st : List eV} {F : List eFr} {μ : eM} {g : Nat → Nat} (hr : (dt_co y).get pc = (pc, .getfield idx, 3, (c, b, 2, pl), x)) (hp : pc + 3 = np) (hI : SI g μ) (hg : g a = ρ) (h0 : ρ ≠ 0) (hk : RK ρ = (c, n)) (hl : Nat.ble (b + 1) n = true) (hd : SD ρ b = .inl (lo, hi)) (K : ∀ v : Int, μ.1 a b = v → lo ≤ v ∧ v ≤ hi → ex_q fg rc (d, (y, np, lv, eJ v :: st), F, μ)) : ex_q fg rc (d, (y, pc, lv, eR a :: st), F, μ) := w_gf (v := eJ (μ.1 a b)) hr hp (hI.kd hg h0 hk) rfl (K _ rfl (hI.int hg h0 hk (Nat.ble_eq.mp hl) hd))
theorem j_gr {fg : eG} {rc : eQ} {d y pc np a b pl idx ρ c n : Nat} {x : Int} {P : Nat → Bool} {lv : List (Option eV)} {st : List eV} {F : List eFr} {μ : eM} {g : Nat → Nat} (hr : (dt_co y).get pc = (pc, .getfield idx, 3, (c, b, 3, pl), x)) (hp : pc + 3 = np) (hI : SI g μ) (hg : g a = ρ) (h0 : ρ ≠ 0) (hk : RK ρ = (c, n)) (hl : Nat.ble (b + 1) n = true) (hd : SD ρ b = .inr P) (K : ∀ r : Nat, μ.1 a b = (r : Int) → P (g r) = true → (g r = 0 → r = 0) → ex_q fg rc (d, (y, np, lv, eR r :: st), F, μ)) : ex_q fg rc (d, (y, pc, lv, eR a :: st), F, μ) := by
  obtain ⟨r, h1, h2, h3⟩ := hI.ref hg h0 hk (Nat.ble_eq.mp hl) hd
  refine w_gf (v := eR r) hr hp (hI.kd hg h0 hk) ?_ (K r h1 h2 h3)
  show eR (μ.1 a b).toNat = eR r
  rw [h1, Int.toNat_natCast]
theorem j_pf {fg : eG} {rc : eQ} {d y pc np a b t pl idx ρ c n : Nat} {x w : Int} {v : eV} {lv : List (Option eV)} {st : List eV} {F : List eFr} {μ : eM} {g : Nat → Nat} (hr : (dt_co y).get pc = (pc, .putfield idx, 3, (c, b, t, pl), x)) (hp : pc + 3 = np) (hI : SI g μ) (hg : g a = ρ) (h0 : ρ ≠ 0) (hk : RK ρ = (c, n)) (hv : ev_qv t v = some w) (ho : hOk g (SD ρ b) w) (K : ∀ μ2 : eM, SI g μ2 → Wr μ μ2 a b w → ex_q fg rc (d, (y, np, lv, st), F, μ2)) : ex_q fg rc (d, (y, pc, lv, v :: eR a :: st), F, μ) := by
  refine b_pf (w := w) hr hp (hI.kd hg h0 hk) hv ?_
  exact K _ (hI.put hg rfl ho) rfl
theorem SI.al {fg : eG} {g : Nat → Nat} {μ : eM} {a ρ c n : Nat} {i : Int} (h : SI g μ) (hg : g a = ρ) (h0 : ρ ≠ 0) (hk : RK ρ = (c, n)) (hn : n ≤ 1000000) (h1 : 0 ≤ i) (h2 : i < (n : Int)) : ev_al fg μ c a i = some (μ.1 a i.toNat) := by
  have h3 := h.kn hg h0
  rw [hk] at h3
  unfold ev_kn at h3
  unfold ev_al
  split at h3
  · cases h3
  · rename_i h4
    rw [if_neg h4, h3]
    dsimp only
    rw [ev_w_in (by omega) (by omega), if_pos ⟨rfl, h1, h2⟩]
theorem SI.as {g : Nat → Nat} {μ : eM} {a ρ c n : Nat} {i x : Int} (h : SI g μ) (hg : g a = ρ) (h0 : ρ ≠ 0) (hk : RK ρ = (c, n)) (hn : n ≤ 1000000) (h1 : 0 ≤ i) (h2 : i < (n : Int)) : ev_as μ c a i x = some (ev_up μ.1 a i.toNat x, μ.2) := by
  have h3 := h.kn hg h0
  rw [hk] at h3
  unfold ev_kn at h3
  unfold ev_as
  split at h3
  · cases h3
  · rename_i h4
    rw [if_neg h4, h3]
    dsimp only
    rw [ev_w_in (by omega) (by omega), if_pos ⟨rfl, h1, h2⟩]
theorem j_al {fg : eG} {rc : eQ} {d y pc np a b t pl c0 ρ n : Nat} {x i lo hi : Int} {lv : List (Option eV)} {st : List eV} {F : List eFr} {μ : eM} {g : Nat → Nat} (hr : (dt_co y).get pc = (pc, .iaload, 1, (c0, b, t, pl), x)) (hp : pc + 1 = np) (hI : SI g μ) (hg : g a = ρ) (h0 : ρ ≠ 0) (hk : RK ρ = (100, n)) (hn : Nat.ble n 1000000 = true) (hd : ∀ k, SD ρ k = .inl (lo, hi)) (h1 : 0 ≤ i) (h2 : i < (n : Int)) (K : ∀ v : Int, μ.1 a i.toNat = v → lo ≤ v ∧ v ≤ hi → ex_q fg rc (d, (y, np, lv, eI v :: st), F, μ)) : ex_q fg rc (d, (y, pc, lv, eI i :: eR a :: st), F, μ) := w_al hr hp (hI.al hg h0 hk (Nat.ble_eq.mp hn) h1 h2) (K _ rfl (hI.int hg h0 hk (by omega) (hd _)))
theorem j_as {fg : eG} {rc : eQ} {d y pc np a b t pl c0 ρ n : Nat} {x i w lo hi : Int} {lv : List (Option eV)} {st : List eV} {F : List eFr} {μ : eM} {g : Nat → Nat} (hr : (dt_co y).get pc = (pc, .iastore, 1, (c0, b, t, pl), x)) (hp : pc + 1 = np) (hI : SI g μ) (hg : g a = ρ) (h0 : ρ ≠ 0) (hk : RK ρ = (100, n)) (hn : Nat.ble n 1000000 = true) (hd : ∀ k, SD ρ k = .inl (lo, hi)) (h1 : 0 ≤ i) (h2 : i < (n : Int)) (hw : lo ≤ w ∧ w ≤ hi) (K : ∀ μ2 : eM, SI g μ2 → Wr μ μ2 a i.toNat w → ex_q fg rc (d, (y, np, lv, st), F, μ2)) : ex_q fg rc (d, (y, pc, lv, eI w :: eI i :: eR a :: st), F, μ) := w_as hr hp (hI.as hg h0 hk (Nat.ble_eq.mp hn) h1 h2) (K _ (hI.put hg rfl (hO_i (hd _) hw)) rfl)
theorem j_ll {fg : eG} {rc : eQ} {d y pc np a b t pl c0 ρ n : Nat} {x i lo hi : Int} {lv : List (Option eV)} {st : List eV} {F : List eFr} {μ : eM} {g : Nat → Nat} (hr : (dt_co y).get pc = (pc, .laload, 1, (c0, b, t, pl), x)) (hp : pc + 1 = np) (hI : SI g μ) (hg : g a = ρ) (h0 : ρ ≠ 0) (hk : RK ρ = (101, n)) (hn : Nat.ble n 1000000 = true) (hd : ∀ k, SD ρ k = .inl (lo, hi)) (h1 : 0 ≤ i) (h2 : i < (n : Int)) (K : ∀ v : Int, μ.1 a i.toNat = v → lo ≤ v ∧ v ≤ hi → ex_q fg rc (d, (y, np, lv, eJ v :: st), F, μ)) : ex_q fg rc (d, (y, pc, lv, eI i :: eR a :: st), F, μ) := by
  subst hp
  refine ex_q_1 (xs_m (st' := eJ (μ.1 a i.toNat) :: st) (μ' := μ) hr rfl ?_) (K _ rfl (hI.int hg h0 hk (by omega) (hd _)))
  simp only [ev_m, hI.al (fg := fg) hg h0 hk (Nat.ble_eq.mp hn) h1 h2]
theorem j_sl {fg : eG} {rc : eQ} {d y pc np a b t pl c0 ρ n : Nat} {x i w lo hi : Int} {lv : List (Option eV)} {st : List eV} {F : List eFr} {μ : eM} {g : Nat → Nat} (hr : (dt_co y).get pc = (pc, .lastore, 1, (c0, b, t, pl), x)) (hp : pc + 1 = np) (hI : SI g μ) (hg : g a = ρ) (h0 : ρ ≠ 0) (hk : RK ρ = (101, n)) (hn : Nat.ble n 1000000 = true) (hd : ∀ k, SD ρ k = .inl (lo, hi)) (h1 : 0 ≤ i) (h2 : i < (n : Int)) (hw : lo ≤ w ∧ w ≤ hi) (K : ∀ μ2 : eM, SI g μ2 → Wr μ μ2 a i.toNat w → ex_q fg rc (d, (y, np, lv, st), F, μ2)) : ex_q fg rc (d, (y, pc, lv, eJ w :: eI i :: eR a :: st), F, μ) := by
  subst hp
  refine ex_q_1 (xs_m (st' := st) (μ' := (ev_up μ.1 a i.toNat w, μ.2)) hr rfl ?_) (K _ (hI.put hg rfl (hO_i (hd _) hw)) rfl)
  simp only [ev_m, hI.as (x := w) hg h0 hk (Nat.ble_eq.mp hn) h1 h2]
theorem al_no {fg : eG} {μ : eM} {a c c2 n : Nat} {i : Int} (h : ev_kn μ a = some (c, n)) (hn : c2 ≠ c) : ev_al fg μ c2 a i = none := by
  unfold ev_kn at h
  unfold ev_al
  split at h
  · cases h
  · rename_i h4
    rw [if_neg h4, h]
    dsimp only
    rw [if_neg (fun q => hn q.1.symm)]
theorem as_no {μ : eM} {a c c2 n : Nat} {i x : Int} (h : ev_kn μ a = some (c, n)) (hn : c2 ≠ c) : ev_as μ c2 a i x = none := by
  unfold ev_kn at h
  unfold ev_as
  split at h
  · cases h
  · rename_i h4
    rw [if_neg h4, h]
    dsimp only
    rw [if_neg (fun q => hn q.1.symm)]
theorem j_b2 {fg : eG} {rc : eQ} {d y pc np a b t pl c0 ρ n : Nat} {x i lo hi : Int} {lv : List (Option eV)} {st : List eV} {F : List eFr} {μ : eM} {g : Nat → Nat} (hr : (dt_co y).get pc = (pc, .baload, 1, (c0, b, t, pl), x)) (hp : pc + 1 = np) (hI : SI g μ) (hg : g a = ρ) (h0 : ρ ≠ 0) (hk : RK ρ = (102, n)) (hn : Nat.ble n 1000000 = true) (hd : ∀ k, SD ρ k = .inl (lo, hi)) (h1 : 0 ≤ i) (h2 : i < (n : Int)) (K : ∀ v : Int, μ.1 a i.toNat = v → lo ≤ v ∧ v ≤ hi → ex_q fg rc (d, (y, np, lv, eI v :: st), F, μ)) : ex_q fg rc (d, (y, pc, lv, eI i :: eR a :: st), F, μ) := by
  subst hp
  refine ex_q_1 (xs_m (st' := eI (μ.1 a i.toNat) :: st) (μ' := μ) hr rfl ?_) (K _ rfl (hI.int hg h0 hk (by omega) (hd _)))
  simp only [ev_m, hI.al (fg := fg) hg h0 hk (Nat.ble_eq.mp hn) h1 h2]
theorem j_b3 {fg : eG} {rc : eQ} {d y pc np a b t pl c0 ρ n : Nat} {x i lo hi : Int} {lv : List (Option eV)} {st : List eV} {F : List eFr} {μ : eM} {g : Nat → Nat} (hr : (dt_co y).get pc = (pc, .baload, 1, (c0, b, t, pl), x)) (hp : pc + 1 = np) (hI : SI g μ) (hg : g a = ρ) (h0 : ρ ≠ 0) (hk : RK ρ = (103, n)) (hn : Nat.ble n 1000000 = true) (hd : ∀ k, SD ρ k = .inl (lo, hi)) (h1 : 0 ≤ i) (h2 : i < (n : Int)) (K : ∀ v : Int, μ.1 a i.toNat = v → lo ≤ v ∧ v ≤ hi → ex_q fg rc (d, (y, np, lv, eI v :: st), F, μ)) : ex_q fg rc (d, (y, pc, lv, eI i :: eR a :: st), F, μ) := by
  subst hp
  refine ex_q_1 (xs_m (st' := eI (μ.1 a i.toNat) :: st) (μ' := μ) hr rfl ?_) (K _ rfl (hI.int hg h0 hk (by omega) (hd _)))
  simp only [ev_m, al_no (fg := fg) (i := i) (c2 := 102) (hk ▸ hI.kn hg h0) (by decide), hI.al (fg := fg) hg h0 hk (Nat.ble_eq.mp hn) h1 h2]
theorem j_sb2 {fg : eG} {rc : eQ} {d y pc np a b t pl c0 ρ n : Nat} {x i w lo hi : Int} {lv : List (Option eV)} {st : List eV} {F : List eFr} {μ : eM} {g : Nat → Nat} (hr : (dt_co y).get pc = (pc, .bastore, 1, (c0, b, t, pl), x)) (hp : pc + 1 = np) (hI : SI g μ) (hg : g a = ρ) (h0 : ρ ≠ 0) (hk : RK ρ = (102, n)) (hn : Nat.ble n 1000000 = true) (hd : ∀ k, SD ρ k = .inl (lo, hi)) (h1 : 0 ≤ i) (h2 : i < (n : Int)) (hw : lo ≤ (w + 128) % 256 - 128 ∧ (w + 128) % 256 - 128 ≤ hi) (K : ∀ μ2 : eM, SI g μ2 → Wr μ μ2 a i.toNat ((w + 128) % 256 - 128) → ex_q fg rc (d, (y, np, lv, st), F, μ2)) : ex_q fg rc (d, (y, pc, lv, eI w :: eI i :: eR a :: st), F, μ) := by
  subst hp
  refine ex_q_1 (xs_m (st' := st) (μ' := (ev_up μ.1 a i.toNat ((w + 128) % 256 - 128), μ.2)) hr rfl ?_) (K _ (hI.put hg rfl (hO_i (hd _) hw)) rfl)
  simp only [ev_m, hI.as (x := (w + 128) % 256 - 128) hg h0 hk (Nat.ble_eq.mp hn) h1 h2]
theorem j_sb3 {fg : eG} {rc : eQ} {d y pc np a b t pl c0 ρ n : Nat} {x i w lo hi : Int} {lv : List (Option eV)} {st : List eV} {F : List eFr} {μ : eM} {g : Nat → Nat} (hr : (dt_co y).get pc = (pc, .bastore, 1, (c0, b, t, pl), x)) (hp : pc + 1 = np) (hI : SI g μ) (hg : g a = ρ) (h0 : ρ ≠ 0) (hk : RK ρ = (103, n)) (hn : Nat.ble n 1000000 = true) (hd : ∀ k, SD ρ k = .inl (lo, hi)) (h1 : 0 ≤ i) (h2 : i < (n : Int)) (hz : w = 0 ∨ w = 1) (hw : lo ≤ w ∧ w ≤ hi) (K : ∀ μ2 : eM, SI g μ2 → Wr μ μ2 a i.toNat w → ex_q fg rc (d, (y, np, lv, st), F, μ2)) : ex_q fg rc (d, (y, pc, lv, eI w :: eI i :: eR a :: st), F, μ) := by
  subst hp
  have hz2 : ev_w w = 0 ∨ ev_w w = 1 := by
    rcases hz with q | q
    · rw [q]
      exact Or.inl rfl
    · rw [q]
      exact Or.inr rfl
  refine ex_q_1 (xs_m (st' := st) (μ' := (ev_up μ.1 a i.toNat w, μ.2)) hr rfl ?_) (K _ (hI.put hg rfl (hO_i (hd _) hw)) rfl)
  simp only [ev_m, as_no (i := i) (x := (w + 128) % 256 - 128) (c2 := 102) (hk ▸ hI.kn hg h0) (by decide), if_pos hz2, hI.as (x := w) hg h0 hk (Nat.ble_eq.mp hn) h1 h2]
theorem j_len {fg : eG} {rc : eQ} {d y pc np a b t pl c0 ρ c n : Nat} {x : Int} {lv : List (Option eV)} {st : List eV} {F : List eFr} {μ : eM} {g : Nat → Nat} (hr : (dt_co y).get pc = (pc, .arraylength, 1, (c0, b, t, pl), x)) (hp : pc + 1 = np) (hI : SI g μ) (hg : g a = ρ) (h0 : ρ ≠ 0) (hk : RK ρ = (c, n)) (hc : Nat.ble 100 c = true) (hc2 : Nat.ble c 103 = true) (K : ex_q fg rc (d, (y, np, lv, eI (n : Int) :: st), F, μ)) : ex_q fg rc (d, (y, pc, lv, eR a :: st), F, μ) := by
  subst hp
  have h3 := hI.kn hg h0
  rw [hk] at h3
  have h5 : ev_ln fg μ a = some n := by
    unfold ev_kn at h3
    unfold ev_ln
    split at h3
    · cases h3
    · rename_i h4
      rw [if_neg h4, h3]
      dsimp only
      rw [if_pos ⟨Nat.ble_eq.mp hc, Nat.ble_eq.mp hc2⟩]
  refine ex_q_1 (xs_m (st' := eI (n : Int) :: st) (μ' := μ) hr rfl ?_) K
  simp only [ev_m, h5]
