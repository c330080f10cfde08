/-! RENAMING: steps -/
theorem fL_eq {ρ ρ' : Nat → Nat} {D : Nat → Prop} (hb : RB ρ) (hb' : RB ρ') (hD : ∀ r, D r → ρ' r = ρ r) {v : eV} (h : kV D v) : fV ρ' v = fV ρ v := by
  rcases v with (x | x) | ((x | x) | x)
  · rfl
  · rfl
  · rfl
  · rfl
  · rcases h with h | h
    · show eR (ρ' x) = eR (ρ x)
      rw [hb.1 x h, hb'.1 x h]
    · show eR (ρ' x) = eR (ρ x)
      rw [hD x h]
theorem fS_up {ρ ρ' : Nat → Nat} {D : Nat → Prop} (hb : RB ρ) (hb' : RB ρ') (hD : ∀ r, D r → ρ' r = ρ r) {st : List eV} (h : kS D st) : fS ρ' st = fS ρ st := List.map_congr_left fun v hv => fL_eq hb hb' hD (h v hv)
theorem fL_up {ρ ρ' : Nat → Nat} {D : Nat → Prop} (hb : RB ρ) (hb' : RB ρ') (hD : ∀ r, D r → ρ' r = ρ r) {lv : List (Option eV)} (h : kL D lv) : fL ρ' lv = fL ρ lv := by
  refine List.map_congr_left fun o ho => ?_
  cases o with
  | none => rfl
  | some v => exact congrArg some (fL_eq hb hb' hD (h v ho))
theorem kV_up {D D' : Nat → Prop} (hD : ∀ r, D r → D' r) {v : eV} (h : kV D v) : kV D' v := by
  rcases v with (x | x) | ((x | x) | x)
  · exact True.intro
  · exact True.intro
  · exact True.intro
  · exact True.intro
  · exact h.imp id (hD x)
theorem kS_up {D D' : Nat → Prop} (hD : ∀ r, D r → D' r) {st : List eV} (h : kS D st) : kS D' st := fun v hv => kV_up hD (h v hv)
theorem kL_up {D D' : Nat → Prop} (hD : ∀ r, D r → D' r) {lv : List (Option eV)} (h : kL D lv) : kL D' lv := fun v hv => kV_up hD (h v hv)
abbrev rE (WF : Nat → Nat → Bool) (ct : Bool) (ρ : Nat → Nat) (D : Nat → Prop) (μ ν : eM) (st' : List eV) (μ' : eM) (X : List eV → eM → Prop) : Prop := ∃ ρ' D' ν', X (fS ρ' st') ν' ∧ RN ct ρ' D' μ' ν' ∧ CH WF ρ D μ ν ρ' D' μ' ν' ∧ kS D' st'
set_option maxHeartbeats 4000000 in
theorem rn_m {Y : Nat → Bool} {WF : Nat → Nat → Bool} {ct : Bool} {fg : eG} {ρ : Nat → Nat} {D : Nat → Prop} {μ ν : eM} (h : RN ct ρ D μ ν) {y0 : Nat} {i : Instr} {n a b t pl : Nat} {x x0 : Int} (hfy : fcy Y WF ct (y0, i, n, (a, b, t, pl), x0) = true) {st st' : List eV} {μ' : eM} (hm : ev_m fg i a b t x st μ = some (st', μ')) (hk : kS D st) : rE WF ct ρ D μ ν st' μ' (fun s m => ev_m fg i a b t x (fS ρ st) ν = some (s, m)) := by
  have hf : fcb (y0, i, n, (a, b, t, pl), x0) = true := by
    have h9 : (fcb (y0, i, n, (a, b, t, pl), x0) && _) = true := hfy
    exact (Bool.and_eq_true _ _ ▸ h9).1
  cases i
  case getfield idx =>
    have hf : (decide (a < 100) && decide ((dt_lay a)[b]? = some t)) = true := hf
    rw [Bool.and_eq_true, decide_eq_true_eq, decide_eq_true_eq] at hf
    simp only [ev_m] at hm
    split at hm
    · rename_i r s
      split at hm
      · rename_i hkd
        cases hm
        obtain ⟨n0, hkn⟩ := kd_kn hkd
        obtain ⟨hr, n1, g1, gn, g2⟩ := h.at (kS_h hk) hkn (by show a ≠ 104; omega)
        have g2 : LV ρ D (μ.1 r) (ν.1 (ρ r)) a n0 := g2
        have hkd2 : ev_kd ν (ρ r) = some a := kn_kd2 g1
        have key : ev_pv t (ν.1 (ρ r) b) = fV ρ (ev_pv t (μ.1 r b)) ∧ kV D (ev_pv t (μ.1 r b)) := by
          by_cases ht : t = 3
          · subst ht
            obtain ⟨z, e1, e2, e3⟩ := (g2 b (Or.inl hf.1)).1 ⟨hf.1, hf.2⟩
            rw [e1, e2]
            refine ⟨?_, e3⟩
            show eR ((ρ z : Int).toNat) = eR (ρ ((z : Int).toNat))
            rw [Int.toNat_natCast, Int.toNat_natCast]
          · have e1 := (g2 b (Or.inl hf.1)).2 (fun q => by have q2 := q.2; rw [hf.2] at q2; exact ht (Option.some.inj q2))
            rw [e1]
            have e2 : nR (ev_pv t (μ.1 r b)) := by
              unfold ev_pv
              split
              · exact True.intro
              · exact absurd rfl ht
              · exact True.intro
            exact ⟨(nR_f e2).symm, nR_k e2⟩
        refine ⟨ρ, D, ν, ?_, h, CH.r, kS_c key.2 (kS_t hk)⟩
        show (if ev_kd ν (ρ r) = some a then some (ev_pv t (ν.1 (ρ r) b) :: fS ρ s, ν) else none) = _
        rw [if_pos hkd2, key.1]
        rfl
      · cases hm
    · cases hm
  case putfield idx =>
    have hf : (decide (a < 100) && decide ((dt_lay a)[b]? = some t)) = true := hf
    rw [Bool.and_eq_true, decide_eq_true_eq, decide_eq_true_eq] at hf
    simp only [ev_m] at hm
    split at hm
    · rename_i v r s
      split at hm
      · rename_i hkd
        split at hm
        · rename_i w hw
          cases hm
          obtain ⟨n0, hkn⟩ := kd_kn hkd
          obtain ⟨hr, n1, g1, gn, g2⟩ := h.at (kS_h (kS_t hk)) hkn (by show a ≠ 104; omega)
          have g2 : LV ρ D (μ.1 r) (ν.1 (ρ r)) a n0 := g2
          have hkd2 : ev_kd ν (ρ r) = some a := kn_kd2 g1
          have hwf : WF a b = true := by
            have h9 : (fcb _ && WF a b) = true := hfy
            exact (Bool.and_eq_true _ _ ▸ h9).2
          have key : ∃ w', ev_qv t (fV ρ v) = some w' ∧ (rnF a b → ∃ z : Nat, w = (z : Int) ∧ w' = ((ρ z : Nat) : Int) ∧ (z < 64 ∨ D z)) ∧ (¬ rnF a b → w' = w) := by
            by_cases ht : t = 3
            · subst ht
              have hs : rnF a b := ⟨hf.1, hf.2⟩
              rcases v with (z | z) | ((z | z) | z)
              · cases hw
              · cases hw
              · cases hw
              · cases hw
              · cases hw
                exact ⟨_, rfl, fun _ => ⟨z, rfl, rfl, kS_h hk⟩, fun q => absurd hs q⟩
            · have hs : ¬ rnF a b := fun q => by have q2 := q.2; rw [hf.2] at q2; exact ht (Option.some.inj q2)
              have e2 : nR v := by
                rcases v with (z | z) | ((z | z) | z)
                · exact True.intro
                · exact True.intro
                · exact True.intro
                · exact True.intro
                · exfalso
                  unfold ev_qv at hw
                  split at hw
                  all_goals (first | exact ht rfl | contradiction)
              rw [nR_f e2]
              exact ⟨w, hw, fun q => absurd q hs, fun _ => rfl⟩
          obtain ⟨w', k1, k2, k3⟩ := key
          have hwr := rn_wr h hr hkn (by show a ≠ 104; omega) (f := ev_u1 (μ.1 r) b w) (f' := ev_u1 (ν.1 (ρ r)) b w') (WF := WF) (fun k hkn => by
            by_cases hkb : k = b
            · subst hkb
              rw [ev_u1_at, ev_u1_at]
              exact ⟨k2, k3⟩
            · rw [ev_u1_ne hkb, ev_u1_ne hkb]
              exact g2 k hkn) (fun k => ⟨fun _ q => ev_u1_ne (fun z => by
              subst z
              have q : WF a k = false := q
              rw [hwf] at q
              cases q), fun q => absurd q (by show ¬ 100 ≤ a; omega)⟩)
          refine ⟨ρ, D, (ev_up ν.1 (ρ r) b w', ν.2), ?_, hwr.1, hwr.2, kS_t (kS_t hk)⟩
          show (if ev_kd ν (ρ r) = some a then (match ev_qv t (fV ρ v) with
            | some x => some (fS ρ st', (ev_up ν.1 (ρ r) b x, ν.2))
            | none => none) else none) = _
          rw [if_pos hkd2, k1]
        · cases hm
      · cases hm
    · cases hm
  case iaload =>
    simp only [ev_m] at hm
    split at hm
    · rename_i j r s
      split at hm
      · rename_i w hw
        cases hm
        refine ⟨ρ, D, ν, ?_, h, CH.r, kS_c True.intro (kS_t (kS_t hk))⟩
        show (match ev_al fg ν 100 (ρ r) j with
          | some x => some (eI x :: fS ρ s, ν)
          | none => none) = _
        rw [rn_al h (kS_h (kS_t hk)) (by decide) (by decide) hw]
        rfl
      · cases hm
    · cases hm
  case laload =>
    simp only [ev_m] at hm
    split at hm
    · rename_i j r s
      split at hm
      · rename_i w hw
        cases hm
        refine ⟨ρ, D, ν, ?_, h, CH.r, kS_c True.intro (kS_t (kS_t hk))⟩
        show (match ev_al fg ν 101 (ρ r) j with
          | some x => some (eJ x :: fS ρ s, ν)
          | none => none) = _
        rw [rn_al h (kS_h (kS_t hk)) (by decide) (by decide) hw]
        rfl
      · cases hm
    · cases hm
  case baload =>
    simp only [ev_m] at hm
    split at hm
    · rename_i j r s
      split at hm
      · rename_i w hw
        cases hm
        refine ⟨ρ, D, ν, ?_, h, CH.r, kS_c True.intro (kS_t (kS_t hk))⟩
        show (match ev_al fg ν 102 (ρ r) j with
          | some x => some (eI x :: fS ρ s, ν)
          | none => (match ev_al fg ν 103 (ρ r) j with
            | some x => some (eI x :: fS ρ s, ν)
            | none => none)) = _
        rw [rn_al h (kS_h (kS_t hk)) (by decide) (by decide) hw]
        rfl
      · rename_i hw0
        split at hm
        · rename_i w hw
          cases hm
          refine ⟨ρ, D, ν, ?_, h, CH.r, kS_c True.intro (kS_t (kS_t hk))⟩
          show (match ev_al fg ν 102 (ρ r) j with
            | some x => some (eI x :: fS ρ s, ν)
            | none => (match ev_al fg ν 103 (ρ r) j with
              | some x => some (eI x :: fS ρ s, ν)
              | none => none)) = _
          rw [rn_al_no h (kS_h (kS_t hk)) hw0 hw]
          dsimp only
          rw [rn_al h (kS_h (kS_t hk)) (by decide) (by decide) hw]
          rfl
        · cases hm
    · cases hm
  case iastore =>
    simp only [ev_m] at hm
    split at hm
    · rename_i w j r s
      split at hm
      · rename_i z hz
        cases hm
        obtain ⟨ν', g1, g2, g3⟩ := rn_as (WF := WF) h (kS_h (kS_t (kS_t hk))) (by decide) (by decide) hz
        refine ⟨ρ, D, ν', ?_, g2, g3, kS_t (kS_t (kS_t hk))⟩
        show (match ev_as ν 100 (ρ r) j w with
          | some z => some (fS ρ st', z)
          | none => none) = _
        rw [g1]
      · cases hm
    · cases hm
  case lastore =>
    simp only [ev_m] at hm
    split at hm
    · rename_i w j r s
      split at hm
      · rename_i z hz
        cases hm
        obtain ⟨ν', g1, g2, g3⟩ := rn_as (WF := WF) h (kS_h (kS_t (kS_t hk))) (by decide) (by decide) hz
        refine ⟨ρ, D, ν', ?_, g2, g3, kS_t (kS_t (kS_t hk))⟩
        show (match ev_as ν 101 (ρ r) j w with
          | some z => some (fS ρ st', z)
          | none => none) = _
        rw [g1]
      · cases hm
    · cases hm
  case bastore =>
    simp only [ev_m] at hm
    split at hm
    · rename_i w j r s
      split at hm
      · rename_i z hz
        cases hm
        obtain ⟨ν', g1, g2, g3⟩ := rn_as (WF := WF) h (kS_h (kS_t (kS_t hk))) (by decide) (by decide) hz
        refine ⟨ρ, D, ν', ?_, g2, g3, kS_t (kS_t (kS_t hk))⟩
        show (match ev_as ν 102 (ρ r) j ((w + 128) % 256 - 128) with
          | some z => some (fS ρ st', z)
          | none => if ev_w w = 0 ∨ ev_w w = 1 then (match ev_as ν 103 (ρ r) j w with
            | some z => some (fS ρ st', z)
            | none => none) else none) = _
        rw [g1]
      · split at hm
        · rename_i hb
          split at hm
          · rename_i z hz
            cases hm
            obtain ⟨ν', g1, g2, g3⟩ := rn_as (WF := WF) h (kS_h (kS_t (kS_t hk))) (by decide) (by decide) hz
            refine ⟨ρ, D, ν', ?_, g2, g3, kS_t (kS_t (kS_t hk))⟩
            show (match ev_as ν 102 (ρ r) j ((w + 128) % 256 - 128) with
              | some z => some (fS ρ st', z)
              | none => if ev_w w = 0 ∨ ev_w w = 1 then (match ev_as ν 103 (ρ r) j w with
                | some z => some (fS ρ st', z)
                | none => none) else none) = _
            rw [rn_as_no h (kS_h (kS_t (kS_t hk))) hz]
            dsimp only
            rw [if_pos hb, g1]
          · cases hm
        · cases hm
    · cases hm
  case arraylength =>
    simp only [ev_m] at hm
    split at hm
    · rename_i r s
      split at hm
      · rename_i w hw
        cases hm
        have hct : ct = false := by
          have h9 : (fcb _ && !ct) = true := hfy
          have h8 := (Bool.and_eq_true _ _ ▸ h9).2
          cases ct
          · rfl
          · cases h8
        have key : ev_ln fg ν (ρ r) = some w := by
          by_cases h64 : r < 64
          · rw [h.1.1 r h64]
            unfold ev_ln at hw ⊢
            rw [if_pos h64] at hw ⊢
            exact hw
          · unfold ev_ln at hw
            rw [if_neg h64] at hw
            split at hw
            · rename_i q hq
              split at hw
              · rename_i hc
                cases hw
                obtain ⟨-, n1, g1, gn, -⟩ := h.at (kS_h hk) (kn_of (by omega) hq) (by omega)
                have gn : n1 = q.2 := gn.resolve_right (fun z => by rw [hct] at z; cases z.1)
                rw [gn] at g1
                obtain ⟨j1, -, j3⟩ := kn_64 g1
                unfold ev_ln
                rw [if_neg (by omega), j3]
                exact if_pos hc
              · cases hw
            · cases hw
        refine ⟨ρ, D, ν, ?_, h, CH.r, kS_c True.intro (kS_t hk)⟩
        show (match ev_ln fg ν (ρ r) with
          | some n => some (eI (n : Int) :: fS ρ s, ν)
          | none => none) = _
        rw [key]
        rfl
      · cases hm
    · cases hm
  case new idx =>
    simp only [ev_m] at hm
    cases hm
    obtain ⟨ρ', D', g1, g2, g3, g4⟩ := rn_nw (WF := WF) h a (dt_lay a).length
    refine ⟨ρ', D', _, ?_, g1, g2, kS_c (Or.inr g3) (kS_up (fun r q => (g2.1 r q).1) hk)⟩
    show some (eR (ν.2.1.length + 64) :: fS ρ st, ev_nw ν a (dt_lay a).length) = some (eR (ρ' (μ.2.1.length + 64)) :: fS ρ' st, _)
    rw [g4, fS_up h.1 g1.1 (fun r q => (g2.1 r q).2) hk]
  case newarray ty =>
    have hf : (decide (100 ≤ a) && decide (a ≤ 103)) = true := hf
    simp only [ev_m] at hm
    split at hm
    · rename_i j s
      split at hm
      · rename_i hj
        cases hm
        obtain ⟨ρ', D', g1, g2, g3, g4⟩ := rn_nw (WF := WF) h a (ev_w j).toNat
        refine ⟨ρ', D', _, ?_, g1, g2, kS_c (Or.inr g3) (kS_up (fun r q => (g2.1 r q).1) (kS_t hk))⟩
        show (if 0 ≤ ev_w j ∧ ev_w j ≤ 1000000 then some (eR (ν.2.1.length + 64) :: fS ρ s, ev_nw ν a (ev_w j).toNat) else none) = some (eR (ρ' (μ.2.1.length + 64)) :: fS ρ' s, _)
        rw [if_pos hj, g4, fS_up h.1 g1.1 (fun r q => (g2.1 r q).2) (kS_t hk)]
      · cases hm
    · cases hm
  case ldc idx =>
    simp only [ev_m] at hm
    split at hm
    · rename_i h0
      cases hm
      exact ⟨ρ, D, ν, if_pos h0, h, CH.r, kS_c True.intro hk⟩
    · cases hm
  case ldc_w idx =>
    simp only [ev_m] at hm
    split at hm
    · rename_i h0
      cases hm
      exact ⟨ρ, D, ν, if_pos h0, h, CH.r, kS_c True.intro hk⟩
    · cases hm
  case ldc2_w idx =>
    simp only [ev_m] at hm
    split at hm
    · rename_i h0
      cases hm
      exact ⟨ρ, D, ν, if_pos h0, h, CH.r, kS_c True.intro hk⟩
    · rename_i h0
      split at hm
      · rename_i h1
        cases hm
        exact ⟨ρ, D, ν, (if_neg h0).trans (if_pos h1), h, CH.r, kS_c True.intro hk⟩
      · cases hm
  case getstatic idx =>
    have hf : a < 64 := of_decide_eq_true hf
    simp only [ev_m] at hm
    cases hm
    refine ⟨ρ, D, ν, ?_, h, CH.r, kS_c (Or.inl hf) hk⟩
    show some (eR a :: fS ρ st, ν) = some (eR (ρ a) :: fS ρ st, ν)
    rw [h.1.1 a hf]
  all_goals (cases hm)
theorem fS_sum (ρ : Nat → Nat) (st : List eV) : ((fS ρ st).map ev_cat).sum = (st.map ev_cat).sum := by
  rw [List.map_map]
  congr 1
  exact List.map_congr_left fun v _ => fV_cat ρ v
theorem LV.cp {ρ : Nat → Nat} {D : Nat → Prop} {f g f2 g2 : Nat → Int} {c n1 n2 : Nat} (hc : 100 ≤ c) (h1 : LV ρ D f g c n1) (h2 : LV ρ D f2 g2 c n2) (P : Nat → Prop) [DecidablePred P] (m : Nat → Nat) (hP : ∀ k, P k → m k < n1) : LV ρ D (fun q => if P q then f (m q) else f2 q) (fun q => if P q then g (m q) else g2 q) c n2 := by
  intro k hkn
  refine ⟨fun q => absurd q (rnF_no hc), fun q => ?_⟩
  show (if P k then g (m k) else g2 k) = (if P k then f (m k) else f2 k)
  split
  · rename_i hp
    exact (h1 _ (Or.inr (hP k hp))).2 (rnF_no hc)
  · exact (h2 _ hkn).2 (rnF_no hc)
theorem rn_o {WF : Nat → Nat → Bool} {ct : Bool} {ρ : Nat → Nat} {D : Nat → Prop} {μ ν : eM} (h : RN ct ρ D μ ν) {d a : Nat} {i : Instr} {st st' : List eV} {μ' : eM} (hm : ev_o d i a st μ = some (st', μ')) (hk : kS D st) : ∃ ν', ev_o d i a (fS ρ st) ν = some (fS ρ st', ν') ∧ RN ct ρ D μ' ν' ∧ CH WF ρ D μ ν ρ D μ' ν' ∧ kS D st' := by
  cases i
  case invokespecial idx =>
    simp only [ev_o] at hm
    split at hm
    · rename_i r s
      split at hm
      · rename_i h0
        cases hm
        refine ⟨ν, ?_, h, CH.r, kS_t hk⟩
        show (if a = 10 ∧ 0 < d ∧ 0 < ρ r ∧ ((fS ρ st').map ev_cat).sum ≤ 8 then some (fS ρ st', ν) else none) = _
        rw [fS_sum, if_pos ⟨h0.1, h0.2.1, by have := h.1.z r; have := h0.2.2.1; omega, h0.2.2.2⟩]
      · cases hm
    · cases hm
  case invokestatic idx =>
    simp only [ev_o] at hm
    split at hm
    · rename_i b s
      split at hm
      · rename_i h0
        cases hm
        refine ⟨ν, ?_, h, CH.r, kS_c True.intro (kS_t hk)⟩
        show (if a = 24 ∧ 0 < d ∧ ((fS ρ s).map ev_cat).sum ≤ 8 then some (eI b.toInt32.toInt :: fS ρ s, ν) else none) = _
        rw [fS_sum, if_pos h0]
        rfl
      · cases hm
    · rename_i n dp r sp q s
      have hkr : r < 64 ∨ D r := kS_h (kS_t (kS_t hk))
      have hkq : q < 64 ∨ D q := kS_h (kS_t (kS_t (kS_t (kS_t hk))))
      have hks : kS D s := kS_t (kS_t (kS_t (kS_t (kS_t hk))))
      split at hm
      · rename_i h0
        split at hm
        · rename_i k0 n0 k1 n1 e0 e1
          split at hm
          · rename_i h1
            cases hm
            obtain ⟨hc, h2, h3, h4⟩ := h1
            obtain ⟨g0, m0, g1, gm, g2⟩ := h.at hkq e0 (by show k0 ≠ 104; omega)
            obtain ⟨j0, m1, j1, jm, j2⟩ := h.at hkr e1 (by show k1 ≠ 104; omega)
            subst hc
            have gm : m0 = n0 ∨ (ct = true ∧ 100 ≤ k0 ∧ n0 ≤ m0) := gm
            have jm : m1 = n1 ∨ (ct = true ∧ 100 ≤ k0 ∧ n1 ≤ m1) := jm
            have g2 : LV ρ D (μ.1 q) (ν.1 (ρ q)) k0 n0 := g2
            have j2 : LV ρ D (μ.1 r) (ν.1 (ρ r)) k0 n1 := j2
            have hwr := rn_wr h j0 e1 (by show k0 ≠ 104; omega) (WF := WF) (LV.cp (c := k0) (by omega) g2 j2 (fun z => z < (ev_w n).toNat) (fun z => z) (fun k hk => by omega)) (fun k => ⟨fun q => absurd q (by show ¬ k0 < 100; omega), fun _ q => if_neg (by have q : n1 ≤ k := q; omega)⟩)
            refine ⟨_, ?_, hwr.1, hwr.2, hks⟩
            show (if a = 23 ∧ 0 < d ∧ ((fS ρ st').map ev_cat).sum ≤ 8 ∧ ev_w sp = 0 ∧ ev_w dp = 0 ∧ 0 ≤ ev_w n then (match ev_kn ν (ρ q), ev_kn ν (ρ r) with
              | some (k0, n0), some (k1, n1) => if k0 = k1 ∧ (k1 = 100 ∨ k1 = 101) ∧ ev_w n ≤ (n0 : Int) ∧ ev_w n ≤ (n1 : Int) then some (fS ρ st', (ev_ur ν.1 (ρ r) (ev_cp (ν.1 (ρ q)) (ν.1 (ρ r)) (ev_w n).toNat), ν.2)) else none
              | _, _ => none) else _) = _
            rw [fS_sum, if_pos h0, g1, j1]
            exact if_pos ⟨rfl, h2, by omega, by omega⟩
          · cases hm
        · cases hm
      · rename_i h0
        split at hm
        · rename_i hx
          split at hm
          · rename_i k0 n0 k1 n1 e0 e1
            split at hm
            · rename_i h1
              cases hm
              obtain ⟨hc, h2, h3, h4⟩ := h1
              obtain ⟨g0, m0, g1, gm, g2⟩ := h.at hkq e0 (by show k0 ≠ 104; omega)
              obtain ⟨j0, m1, j1, jm, j2⟩ := h.at hkr e1 (by show k1 ≠ 104; omega)
              subst hc
              have gm : m0 = n0 ∨ (ct = true ∧ 100 ≤ k0 ∧ n0 ≤ m0) := gm
              have jm : m1 = n1 ∨ (ct = true ∧ 100 ≤ k0 ∧ n1 ≤ m1) := jm
              have g2 : LV ρ D (μ.1 q) (ν.1 (ρ q)) k0 n0 := g2
              have j2 : LV ρ D (μ.1 r) (ν.1 (ρ r)) k0 n1 := j2
              have hwr := rn_wr h j0 e1 (by show k0 ≠ 104; omega) (WF := WF) (LV.cp (c := k0) (by omega) g2 j2 (fun z => (ev_w dp).toNat ≤ z ∧ z < (ev_w dp).toNat + (ev_w n).toNat) (fun z => (ev_w sp).toNat + (z - (ev_w dp).toNat)) (fun k hk => by omega)) (fun k => ⟨fun q => absurd q (by show ¬ k0 < 100; omega), fun _ q => if_neg (by have q : n1 ≤ k := q; omega)⟩)
              refine ⟨_, ?_, hwr.1, hwr.2, hks⟩
              show (if a = 23 ∧ 0 < d ∧ ((fS ρ st').map ev_cat).sum ≤ 8 ∧ ev_w sp = 0 ∧ ev_w dp = 0 ∧ 0 ≤ ev_w n then _ else if a = 23 ∧ 0 < d ∧ ((fS ρ st').map ev_cat).sum ≤ 8 ∧ 0 ≤ ev_w sp ∧ 0 ≤ ev_w dp ∧ 0 ≤ ev_w n then (match ev_kn ν (ρ q), ev_kn ν (ρ r) with
                | some (k0, n0), some (k1, n1) => if k0 = k1 ∧ (k1 = 100 ∨ k1 = 101) ∧ ev_w sp + ev_w n ≤ (n0 : Int) ∧ ev_w dp + ev_w n ≤ (n1 : Int) then some (fS ρ st', (ev_ur ν.1 (ρ r) (ev_cq (ν.1 (ρ q)) (ν.1 (ρ r)) (ev_w sp).toNat (ev_w dp).toNat (ev_w n).toNat), ν.2)) else none
                | _, _ => none) else none) = _
              rw [fS_sum, if_neg h0, if_pos hx, g1, j1]
              exact if_pos ⟨rfl, h2, by omega, by omega⟩
            · cases hm
          · cases hm
        · cases hm
    · cases hm
  all_goals (cases hm)
theorem rn_u {ρ : Nat → Nat} {D : Nat → Prop} (hb : RB ρ) {d a b : Nat} {i : Instr} {st st' : List eV} (hm : ev_u d i a b st = some st') (hk : kS D st) : ev_u d i a b (fS ρ st) = some (fS ρ st') ∧ kS D st' := by
  cases i
  case ldc idx =>
    simp only [ev_u] at hm
    split at hm
    · rename_i h0
      cases hm
      refine ⟨?_, kS_c (Or.inl h0.2.1) hk⟩
      show (if a = 3 ∧ b < 64 ∧ 0 < b then some (eR b :: fS ρ st) else none) = some (eR (ρ b) :: fS ρ st)
      rw [if_pos h0, hb.1 b h0.2.1]
    · cases hm
  case ldc_w idx =>
    simp only [ev_u] at hm
    split at hm
    · rename_i h0
      cases hm
      refine ⟨?_, kS_c (Or.inl h0.2.1) hk⟩
      show (if a = 3 ∧ b < 64 ∧ 0 < b then some (eR b :: fS ρ st) else none) = some (eR (ρ b) :: fS ρ st)
      rw [if_pos h0, hb.1 b h0.2.1]
    · cases hm
  case invokevirtual idx =>
    simp only [ev_u] at hm
    split at hm
    · rename_i r s
      split at hm
      · rename_i h0
        cases hm
        refine ⟨?_, kS_c True.intro (kS_t hk)⟩
        show (if a = 21 ∧ 4 ≤ d ∧ ρ r < 64 ∧ 0 < (dt_ks (ρ r)).length ∧ ((fS ρ s).map ev_cat).sum ≤ 8 then some (eI ((dt_ks (ρ r)).length : Int) :: fS ρ s) else none) = _
        rw [hb.1 r h0.2.2.1, fS_sum, if_pos h0]
        rfl
      · cases hm
    · rename_i j r s
      split at hm
      · rename_i h0
        cases hm
        refine ⟨?_, kS_c True.intro (kS_t (kS_t hk))⟩
        show (if a = 22 ∧ 4 ≤ d ∧ ρ r < 64 ∧ 0 ≤ ev_w j ∧ ev_w j < ((dt_ks (ρ r)).length : Int) ∧ ((fS ρ s).map ev_cat).sum ≤ 8 then some (eI ((dt_ks (ρ r)).getD (ev_w j).toNat 0) :: fS ρ s) else none) = _
        rw [hb.1 r h0.2.2.1, fS_sum, if_pos h0]
        rfl
      · cases hm
    · cases hm
  all_goals (cases hm)
theorem rn_rt {ρ : Nat → Nat} {D : Nat → Prop} {y : Nat} {i : Instr} {st : List eV} {r : Option eV} (hm : ev_rt y i st = some r) (hk : kS D st) : ev_rt y i (fS ρ st) = some (r.map (fV ρ)) ∧ ∀ v, r = some v → kV D v := by
  unfold ev_rt at hm
  split at hm
  · split at hm
    · split at hm
      · rename_i h0
        cases hm
        exact ⟨if_pos h0, fun v q => by cases q⟩
      · cases hm
    · cases hm
  · split at hm
    · split at hm
      · rename_i h0
        cases hm
        exact ⟨if_pos h0, fun v q => by cases q; exact True.intro⟩
      · cases hm
    · cases hm
  · split at hm
    · split at hm
      · rename_i h0
        cases hm
        exact ⟨if_pos h0, fun v q => by cases q; exact True.intro⟩
      · cases hm
    · cases hm
  · split at hm
    · split at hm
      · rename_i h0
        cases hm
        exact ⟨if_pos h0, fun v q => by cases q; exact True.intro⟩
      · cases hm
    · cases hm
  · split at hm
    · split at hm
      · rename_i h0
        cases hm
        exact ⟨if_pos h0, fun v q => by cases q; exact kS_h hk⟩
      · cases hm
    · cases hm
  · cases hm
theorem fS_sl1 (ρ : Nat → Nat) (as : List eV) : ev_sl1 (fS ρ as) = fL ρ (ev_sl1 as) := by
  induction as with
  | nil => rfl
  | cons v as ih =>
    show ev_sl1 (fV ρ v :: fS ρ as) = _
    rw [ev_sl1_cons, ev_sl1_cons, ih, fV_cat, show fL ρ ((if ev_cat v = 2 then [some v, none] else [some v]) ++ ev_sl1 as) = fL ρ (if ev_cat v = 2 then [some v, none] else [some v]) ++ fL ρ (ev_sl1 as) from List.map_append]
    split <;> rfl
theorem fL_en (ρ : Nat → Nat) (n : Nat) (as : List eV) : ev_en n (fS ρ as) = fL ρ (ev_en n as) := by
  unfold ev_en
  rw [fS_sl1, List.length_map, show fL ρ (ev_sl1 as ++ List.replicate (n - (ev_sl1 as).length) none) = fL ρ (ev_sl1 as) ++ fL ρ (List.replicate (n - (ev_sl1 as).length) none) from List.map_append]
  congr 1
  exact (show List.map (Option.map (fV ρ)) (List.replicate (n - (ev_sl1 as).length) none) = List.replicate (n - (ev_sl1 as).length) (Option.map (fV ρ) none) from List.map_replicate).symm
theorem kL_en {D : Nat → Prop} {as : List eV} (n : Nat) (h : kS D as) : kL D (ev_en n as) := by
  intro v hv
  rcases List.mem_append.mp hv with q | q
  · obtain ⟨w, h1, h2⟩ := List.mem_flatMap.mp q
    have hw := h w h1
    split at h2
    · rcases List.mem_cons.mp h2 with e | e
      · cases e
        exact hw
      · rcases List.mem_cons.mp e with e | e
        · cases e
        · cases e
    · rcases List.mem_cons.mp h2 with e | e
      · cases e
        exact hw
      · cases e
  · cases List.eq_of_mem_replicate q
theorem kS_take {D : Nat → Prop} {st : List eV} (t : Nat) (h : kS D st) : kS D (st.take t).reverse := fun v hv => h v (List.mem_of_mem_take (List.mem_reverse.mp hv))
theorem kS_drop {D : Nat → Prop} {st : List eV} (t : Nat) (h : kS D st) : kS D (st.drop t) := fun v hv => h v (List.mem_of_mem_drop hv)
theorem fS_take (ρ : Nat → Nat) (st : List eV) (t : Nat) : ((fS ρ st).take t).reverse = fS ρ (st.take t).reverse := by
  rw [show fS ρ (st.take t).reverse = (fS ρ (st.take t)).reverse from List.map_reverse, show fS ρ (st.take t) = (fS ρ st).take t from List.map_take]
theorem fS_drop (ρ : Nat → Nat) (st : List eV) (t : Nat) : (fS ρ st).drop t = fS ρ (st.drop t) := List.map_drop.symm
theorem rn_cl2 {Y : Nat → Bool} {WF : Nat → Nat → Bool} {ct : Bool} {ρ : Nat → Nat} {D : Nat → Prop} {μ ν : eM} (h : RN ct ρ D μ ν) {y0 n pl : Nat} {x0 : Int} {i : Instr} {a b t : Nat} (hfy : fcy Y WF ct (y0, i, n, (a, b, t, pl), x0) = true) {st as rs : List eV} (hm : ev_cl2 μ i a b t st = some (as, rs)) (hk : kS D st) : ev_cl2 ν i a b t (fS ρ st) = some (fS ρ as, fS ρ rs) ∧ kS D as ∧ kS D rs ∧ Y b = true := by
  have hf : fcb (y0, i, n, (a, b, t, pl), x0) = true := by
    have h9 : (fcb (y0, i, n, (a, b, t, pl), x0) && _) = true := hfy
    exact (Bool.and_eq_true _ _ ▸ h9).1
  unfold ev_cl2 at hm ⊢
  split at hm
  · rename_i ht
    rw [if_pos (by rw [List.length_map]; exact ht)]
    cases i
    case invokestatic idx =>
      dsimp only at hm ⊢
      split at hm
      · rename_i h0
        cases hm
        refine ⟨?_, kS_take t hk, kS_drop t hk, ?_⟩
        · rw [fS_take, fS_drop, fS_sum, fS_sl1, List.length_map, if_pos h0]
        · have h9 : (fcb _ && (decide (a ≠ 2) || Y b)) = true := hfy
          have h8 := (Bool.and_eq_true _ _ ▸ h9).2
          rw [Bool.or_eq_true, decide_eq_true_eq] at h8
          exact h8.resolve_left (fun q => q h0.1)
      · cases hm
    case invokevirtual idx =>
      dsimp only at hm ⊢
      split at hm
      · rename_i ob r hd
        split at hm
        · rename_i h0
          cases hm
          have hf : (decide (a ≠ 0) || decide ((dt_pl b).2.2.2.2.2.2.2 < 100)) = true := hf
          rw [Bool.or_eq_true, decide_eq_true_eq, decide_eq_true_eq] at hf
          have hf := hf.resolve_left (fun q => q h0.1)
          have hkd := kS_drop t hk
          rw [hd] at hkd
          obtain ⟨n0, hkn⟩ := kd_kn h0.2.2.2
          obtain ⟨-, n1, g1, -, -⟩ := h.at (kS_h hkd) hkn (by show (dt_pl b).2.2.2.2.2.2.2 ≠ 104; omega)
          have hyb : Y b = true := by
            have h9 : (fcb _ && (decide (a ≠ 0) || Y b)) = true := hfy
            have h8 := (Bool.and_eq_true _ _ ▸ h9).2
            rw [Bool.or_eq_true, decide_eq_true_eq] at h8
            exact h8.resolve_left (fun q => q h0.1)
          refine ⟨?_, kS_c (kS_h hkd) (kS_take t hk), kS_t hkd, hyb⟩
          rw [fS_take, fS_drop, hd]
          show (if a = 0 ∧ ((fS ρ rs).map ev_cat).sum ≤ 8 ∧ (ev_sl1 (fS ρ (eR ob :: (st.take t).reverse))).length ≤ dt_mx b ∧ ev_kd ν (ρ ob) = some (dt_pl b).2.2.2.2.2.2.2 then some (fS ρ (eR ob :: (st.take t).reverse), fS ρ rs) else none) = _
          rw [fS_sum, fS_sl1, List.length_map, if_pos ⟨h0.1, h0.2.1, h0.2.2.1, kn_kd2 g1⟩]
        · cases hm
      · cases hm
    case invokespecial idx =>
      dsimp only at hm ⊢
      split at hm
      · rename_i ob r hd
        split at hm
        · rename_i h0
          cases hm
          have hkd := kS_drop t hk
          rw [hd] at hkd
          have hyb : Y b = true := by
            have h9 : (fcb _ && (decide (a ≠ 1) || Y b)) = true := hfy
            have h8 := (Bool.and_eq_true _ _ ▸ h9).2
            rw [Bool.or_eq_true, decide_eq_true_eq] at h8
            exact h8.resolve_left (fun q => q h0.1)
          refine ⟨?_, kS_c (kS_h hkd) (kS_take t hk), kS_t hkd, hyb⟩
          rw [fS_take, fS_drop, hd]
          show (if a = 1 ∧ ((fS ρ rs).map ev_cat).sum ≤ 8 ∧ (ev_sl1 (fS ρ (eR ob :: (st.take t).reverse))).length ≤ dt_mx b ∧ 64 ≤ ρ ob then some (fS ρ (eR ob :: (st.take t).reverse), fS ρ rs) else none) = _
          rw [fS_sum, fS_sl1, List.length_map, if_pos ⟨h0.1, h0.2.1, h0.2.2.1, h.1.2 ob h0.2.2.2⟩]
        · cases hm
      · cases hm
    all_goals (cases hm)
  · cases hm
/-- what none of them knows -/
theorem o_no {d a : Nat} {i : Instr} {st : List eV} {μ : eM} (h1 : a ≠ 10) (h2 : a ≠ 23) (h3 : a ≠ 24) : ev_o d i a st μ = none := by
  cases hq : ev_o d i a st μ with
  | none => rfl
  | some w => rcases ev_o_ok (st' := w.1) (μ' := w.2) hq with ⟨-, -, -, -, h9, -⟩ | ⟨-, -, -, -, -, -, -, h9, -⟩ | ⟨-, -, -, -, -, -, -, -, -, -, -, h9, -⟩ | ⟨-, -, -, -, -, -, -, -, -, -, -, h9, -⟩ <;> omega
theorem cl2_a {μ : eM} {i : Instr} {a b t : Nat} {st : List eV} {z : List eV × List eV} (h : ev_cl2 μ i a b t st = some z) : a ≤ 2 ∧ dt_kl i = 4 := by
  unfold ev_cl2 at h
  split at h
  · cases i
    case invokestatic idx =>
      dsimp only at h
      split at h
      · rename_i h0
        exact ⟨by omega, rfl⟩
      · cases h
    case invokevirtual idx =>
      dsimp only at h
      split at h
      · split at h
        · rename_i h0
          exact ⟨by omega, rfl⟩
        · cases h
      · cases h
    case invokespecial idx =>
      dsimp only at h
      split at h
      · split at h
        · rename_i h0
          exact ⟨by omega, rfl⟩
        · cases h
      · cases h
    all_goals (cases h)
  · cases h
theorem cl2_no {μ : eM} {i : Instr} {a b t : Nat} {st : List eV} (h : 2 < a ∨ dt_kl i ≠ 4) : ev_cl2 μ i a b t st = none := by
  cases hq : ev_cl2 μ i a b t st with
  | none => rfl
  | some z =>
    have := cl2_a hq
    rcases h with h | h
    · omega
    · exact absurd this.2 h
theorem u_a {d a b : Nat} {i : Instr} {st st' : List eV} (h : ev_u d i a b st = some st') : (a = 3 ∧ dt_kl i = 2 ∧ ∀ (fg : eG) (t : Nat) (x : Int) (st : List eV) (μ : eM), ev_m fg i a b t x st μ = none) ∨ ((a = 21 ∨ a = 22) ∧ dt_kl i = 4) := by
  cases i
  case ldc idx =>
    simp only [ev_u] at h
    split at h
    · rename_i h0
      exact Or.inl ⟨h0.1, rfl, fun fg t x st μ => if_neg (by omega)⟩
    · cases h
  case ldc_w idx =>
    simp only [ev_u] at h
    split at h
    · rename_i h0
      exact Or.inl ⟨h0.1, rfl, fun fg t x st μ => if_neg (by omega)⟩
    · cases h
  case invokevirtual idx =>
    simp only [ev_u] at h
    split at h
    · split at h
      · rename_i h0
        exact Or.inr ⟨Or.inl h0.1, rfl⟩
      · cases h
    · split at h
      · rename_i h0
        exact Or.inr ⟨Or.inr h0.1, rfl⟩
      · cases h
    · cases h
  all_goals (cases h)
