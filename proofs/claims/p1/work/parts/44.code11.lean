/-! THE CODED EVALUATOR: switches, loads by an index that isn't known, bytes, the law's answer -/
noncomputable def ng_sw : nR := fun B N => match (dt_co N.2.1.1).get N.2.1.2.1 with
  | (p, .tableswitch df lo hi _, _, _, _) => if N.2.1.2.2.2 % nW % 8 = 3 then (match B[N.2.1.2.2.2 % nW / 8]? with
    | some b => if p = N.2.1.2.1 ∧ 0 ≤ (p : Int) + df ∧ -2147483648 ≤ b.1 ∧ b.2 ≤ 2147483647 ∧ (b.1 < lo ∨ hi < b.2) then some [(B.set (N.2.1.2.2.2 % nW / 8) (b.1, min b.2 (lo - 1)), (N.1, (N.2.1.1, ((p : Int) + df).toNat, N.2.1.2.2.1, N.2.1.2.2.2 / nW), N.2.2.1, N.2.2.2)), (B.set (N.2.1.2.2.2 % nW / 8) (max b.1 (hi + 1), b.2), (N.1, (N.2.1.1, ((p : Int) + df).toNat, N.2.1.2.2.1, N.2.1.2.2.2 / nW), N.2.2.1, N.2.2.2)), (B.set (N.2.1.2.2.2 % nW / 8) (max b.1 lo, min b.2 hi), N)] else none
    | none => none) else none
  | _ => none
theorem ng_sw_ok {fg : eG} {rc rs : Nat} {ρ : Nat → Int} : nrl fg rc rs ρ ng_sw := by
  intro B N l E h hB hN hq
  obtain ⟨d, ⟨y, pc, L, S⟩, F, M⟩ := N
  obtain ⟨d', ⟨y', pc', lv, st⟩, eF', μ⟩ := E
  have hN0 := hN
  obtain ⟨e1, ⟨e2, e3, hlen, hL, hS⟩, hF, hm⟩ := hN
  dsimp only at e1 e2 e3 hlen hL hS hF hm
  subst e1
  subst e2
  subst e3
  unfold ng_sw at h
  dsimp only at h
  split at h
  · rename_i p df lo hi offs n z x hrow
    split at h
    · rename_i h3
      split at h
      · rename_i b hb
        split at h
        · rename_i h0
          obtain ⟨hp, h1, h2, h4, -⟩ := h0
          subst hp
          cases h
          obtain ⟨e, vs, rfl, k1, k2⟩ := hS.pop (by rw [h3]; decide)
          have k1' : e = eI (ρ (S % nW / 8)) := by
            unfold cr at k1
            rw [h3] at k1
            exact k1
          subst k1'
          have hb2 := hB _ _ hb
          have hw : ev_w (ρ (S % nW / 8)) = ρ (S % nW / 8) := ev_w_in (by omega) (by omega)
          have out : ev_w (ρ (S % nW / 8)) < lo ∨ hi < ev_w (ρ (S % nW / 8)) → ev_j (.tableswitch df lo hi offs) n p (eI (ρ (S % nW / 8)) :: vs) = some (((p : Int) + df).toNat, vs) := by
            intro ho
            show ev_tab df lo hi offs p (ρ (S % nW / 8)) vs = _
            unfold ev_tab
            rw [if_pos ho]
            unfold ev_b
            rw [if_pos h1, if_pos True.intro]
          by_cases c1 : ρ (S % nW / 8) < lo
          · refine ex_fine_1 (xs_j hrow rfl (out (Or.inl (by omega)))) ?_
            exact hq _ (List.mem_cons_self) _ (sb_in_set hB (by omega) (by omega)) ⟨rfl, ⟨rfl, rfl, hlen, hL, k2⟩, hF, hm⟩
          · by_cases c2 : hi < ρ (S % nW / 8)
            · refine ex_fine_1 (xs_j hrow rfl (out (Or.inr (by omega)))) ?_
              exact hq _ (List.mem_cons_of_mem _ List.mem_cons_self) _ (sb_in_set hB (by omega) (by omega)) ⟨rfl, ⟨rfl, rfl, hlen, hL, k2⟩, hF, hm⟩
            · exact hq _ (List.mem_cons_of_mem _ (List.mem_cons_of_mem _ List.mem_cons_self)) _ (sb_in_set hB (by omega) (by omega)) hN0
        · cases h
      · cases h
    · cases h
  · cases h
/-- an array, if it is there -/
noncomputable def n_ar (ng : nG) (M : nM) (r : Nat) : Option nC0 := if r < 64 then (if 0 < r then some (ng r) else none) else if r - 64 < M.2.1 then some (n_get M.1 (r - 64)) else none
theorem n_ar_ok {ng : nG} {M : nM} {r : Nat} {c : nC0} (h : n_ar ng M r = some c) : (r = r - 64 + 64 ∧ r - 64 < M.2.1 ∧ c = n_get M.1 (r - 64)) ∨ (0 < r ∧ r < 64 ∧ c = ng r) := by
  unfold n_ar at h
  split at h
  · rename_i h0
    split at h
    · rename_i h1
      cases h
      exact Or.inr ⟨h1, h0, rfl⟩
    · cases h
  · rename_i h0
    split at h
    · rename_i h1
      cases h
      exact Or.inl ⟨by omega, h1, rfl⟩
    · cases h
noncomputable def ng_al (ng : nG) : nR := fun B N => match (dt_co N.2.1.1).get N.2.1.2.1, dV (N.2.1.2.2.2 % nW), n_ar ng N.2.2.2 (N.2.1.2.2.2 / nW % nW / 8) with
  | (p, .iaload, n, _, _), some v, some a => if p = N.2.1.2.1 ∧ N.2.1.2.2.2 / nW % nW % 8 = 2 ∧ N.2.1.2.2.2 % nW % 8 ≠ 4 then (match sc_b B v with
    | some b => if 0 ≤ b.1 ∧ b.2 - b.1 ≤ 70 ∧ b.2 ≤ 16383 ∧ a.1 = 100 ∧ b.2 < (a.2.1 : Int) ∧ n_t0 (n_rg a.2.2 b.1.toNat) = true ∧ (List.range (b.2 - b.1 + 1).toNat).all (fun k => Nat.beq (n_rg a.2.2 (b.1.toNat + k)) (n_rg a.2.2 b.1.toNat)) = true then some [(B, (N.1, (N.2.1.1, N.2.1.2.1 + n, N.2.1.2.2.1, N.2.1.2.2.2 / nW / nW * nW + n_rg a.2.2 b.1.toNat), N.2.2.1, N.2.2.2))] else none
    | none => none) else none
  | _, _, _ => none
theorem ng_al_ok {ng : nG} {fg : eG} {rc rs : Nat} {ρ : Nat → Int} (hg : ng_r ρ ng fg) : nrl fg rc rs ρ (ng_al ng) := by
  intro B N l E h hB hN hq
  obtain ⟨d, ⟨y, pc, L, S⟩, F, M⟩ := N
  obtain ⟨d', ⟨y', pc', lv, st⟩, eF', μ⟩ := E
  obtain ⟨e1, ⟨e2, e3, hlen, hL, hS⟩, hF, hm⟩ := hN
  dsimp only at e1 e2 e3 hlen hL hS hF hm
  subst e1
  subst e2
  subst e3
  unfold ng_al at h
  dsimp only at h
  split at h
  · rename_i p n zz x v a hrow hv ha
    split at h
    · rename_i h0
      obtain ⟨hp, h2, h4⟩ := h0
      subst hp
      split at h
      · rename_i b hb
        split at h
        · rename_i h1
          obtain ⟨g1, g2, g3, g4, g5, g6, g7⟩ := h1
          cases h
          obtain ⟨e, r1, rfl, k1, k2⟩ := hS.pop h4
          obtain ⟨r, rfl, k3⟩ := n_ref k2 h2
          obtain ⟨z, rfl, hz⟩ := sc_b_ok hB (dV_ok hv k1) hb
          have hw : ev_w z = ((z.toNat : Nat) : Int) := by rw [ev_w_in (by omega) (by omega)]; omega
          obtain ⟨w, q1, q2⟩ := n_al hg hm (by decide) (n_ar_ok ha) g4 (i := z.toNat) (by omega) hw
          have q3 := List.all_eq_true.mp g7 (z.toNat - b.1.toNat) (List.mem_range.mpr (by omega))
          have q3 := Nat.eq_of_beq_eq_true q3
          rw [show b.1.toNat + (z.toNat - b.1.toNat) = z.toNat by omega] at q3
          rw [q3] at q2
          obtain ⟨a1, b1, t1, pl⟩ := zz
          refine ex_fine_1 (xs_m (st' := eI w :: r) (μ' := μ) hrow rfl ?_) ?_
          · simp only [ev_m, q1]
          · exact hq _ (List.mem_singleton.mpr rfl) _ hB ⟨rfl, ⟨rfl, rfl, hlen, hL, k3.push (n_rg_lt _ _) (mr_I g6 q2)⟩, hF, hm⟩
        · cases h
      · cases h
    · cases h
  · cases h
/-- a byte is stored -/
noncomputable def n_byte (c : Nat) : Nat := if c % 8 = 0 then n_I ((sg32 (c / 8) + 128) % 256 - 128) else 8 * (2147483775 * 4294967296 + 2147483520) + 7
theorem n_byte_ok {ρ : Nat → Int} {c : Nat} {z : Int} (h : n_t0 c = true) (hc : cr ρ c (eI z)) : mr ρ (n_byte c) ((z + 128) % 256 - 128) ∧ n_byte c < nW := by
  unfold n_byte
  split
  · rename_i h0
    obtain ⟨h1, h2⟩ := cr_0 h0 hc
    cases h2
    have hn := n_I_ok (ρ := ρ) ((sg32 (c / 8) + 128) % 256 - 128)
    rw [ev_w_in (by omega) (by omega)] at hn
    refine ⟨cr_mI ?_ hn.1, hn.2⟩
    have e8 : n_I ((sg32 (c / 8) + 128) % 256 - 128) % 8 = 0 := by
      show 8 * _ % 8 = 0
      omega
    show Nat.beq ((169 >>> (n_I ((sg32 (c / 8) + 128) % 256 - 128) % 8)) % 2) 1 = true
    rw [e8]
    rfl
  · refine ⟨?_, by decide⟩
    have h1 : ((8 * (2147483775 * 4294967296 + 2147483520) + 7) / 8 % 4294967296 : Nat) = 2147483520 := by decide
    have h2 : ((8 * (2147483775 * 4294967296 + 2147483520) + 7) / 8 / 4294967296 : Nat) = 2147483775 := by decide
    show (((8 * (2147483775 * 4294967296 + 2147483520) + 7) / 8 % 4294967296 : Nat) : Int) - 2147483648 ≤ _ ∧ _ ≤ (((8 * (2147483775 * 4294967296 + 2147483520) + 7) / 8 / 4294967296 : Nat) : Int) - 2147483648
    rw [h1, h2]
    omega
noncomputable def ng_bs : nR := fun B N => match (dt_co N.2.1.1).get N.2.1.2.1 with
  | (p, .bastore, n, _, _) => if p = N.2.1.2.1 ∧ n_t0 (N.2.1.2.2.2 % nW) = true ∧ N.2.1.2.2.2 / nW % nW % 8 = 0 ∧ N.2.1.2.2.2 / nW / nW % nW % 8 = 2 ∧ 64 ≤ N.2.1.2.2.2 / nW / nW % nW / 8 ∧ N.2.1.2.2.2 / nW / nW % nW / 8 - 64 < N.2.2.2.2.1 ∧ (n_get N.2.2.2.1 (N.2.1.2.2.2 / nW / nW % nW / 8 - 64)).1 = 102 ∧ N.2.1.2.2.2 / nW % nW / 8 < (n_get N.2.2.2.1 (N.2.1.2.2.2 / nW / nW % nW / 8 - 64)).2.1 ∧ N.2.1.2.2.2 / nW % nW / 8 < 16384 then some [(B, (N.1, (N.2.1.1, N.2.1.2.1 + n, N.2.1.2.2.1, N.2.1.2.2.2 / nW / nW / nW), N.2.2.1, n_wr N.2.2.2 (N.2.1.2.2.2 / nW / nW % nW / 8 - 64) (N.2.1.2.2.2 / nW % nW / 8) (n_byte (N.2.1.2.2.2 % nW))))] else none
  | _ => none
theorem ng_bs_ok {fg : eG} {rc rs : Nat} {ρ : Nat → Int} : nrl fg rc rs ρ ng_bs := by
  intro B N l E h hB hN hq
  obtain ⟨d, ⟨y, pc, L, S⟩, F, M⟩ := N
  obtain ⟨d', ⟨y', pc', lv, st⟩, eF', μ⟩ := E
  obtain ⟨e1, ⟨e2, e3, hlen, hL, hS⟩, hF, hm⟩ := hN
  dsimp only at e1 e2 e3 hlen hL hS hF hm
  subst e1
  subst e2
  subst e3
  unfold ng_bs at h
  dsimp only at h
  split at h
  · rename_i p n zz x hrow
    split at h
    · rename_i h0
      obtain ⟨hp, h1, h2, h3, h4, h5, h6, h7, h8⟩ := h0
      subst hp
      cases h
      obtain ⟨e, r1, rfl, k1, k2⟩ := hS.pop (n_t0_4 h1)
      obtain ⟨z, rfl⟩ := n_t0_ok h1 k1
      obtain ⟨r, rfl, k3⟩ := n_ia k2 h2 h3
      obtain ⟨hb, hb2⟩ := n_byte_ok h1 k1
      have hw : ev_w (sg32 (S / nW % nW / 8)) = ((S / nW % nW / 8 : Nat) : Int) := by
        rw [sg32_w _ (by omega)]
        unfold sg32
        rw [if_pos (by omega)]
      have has : ev_as μ 102 (S / nW / nW % nW / 8) (sg32 (S / nW % nW / 8)) ((z + 128) % 256 - 128) = some (ev_up μ.1 (S / nW / nW % nW / 8) (S / nW % nW / 8) ((z + 128) % 256 - 128), μ.2) := by
        unfold ev_as
        rw [if_neg (by omega), (hm.2.2.2 _ h5).1]
        dsimp only
        rw [if_pos ⟨h6, by omega, by omega⟩, hw]
        rfl
      have hwr := hm.wr h5 h7 hb2 hb
      rw [show S / nW / nW % nW / 8 - 64 + 64 = S / nW / nW % nW / 8 by omega] at hwr
      obtain ⟨a1, b1, t1, pl⟩ := zz
      refine ex_fine_1 (xs_m (st' := r) (μ' := (ev_up μ.1 (S / nW / nW % nW / 8) (S / nW % nW / 8) ((z + 128) % 256 - 128), μ.2)) hrow rfl ?_) ?_
      · simp only [ev_m, has]
      · exact hq _ (List.mem_singleton.mpr rfl) _ hB ⟨rfl, ⟨rfl, rfl, hlen, hL, k3⟩, hF, hwr⟩
    · cases h
  · cases h
/-- the law's answer -/
noncomputable def ng_end (rc rs : Nat) : nR := fun _ N => match (dt_co N.2.1.1).get N.2.1.2.1, N.2.2.1 with
  | (p, .ireturn, _, _, _), [] => if p = N.2.1.2.1 ∧ N.2.1.2.2.2 = 4 * nW + 8 ∧ ((dt_pl N.2.1.1).2.1 = 1 ∨ (dt_pl N.2.1.1).2.1 = 2) ∧ N.2.2.2.2.1 ≤ rc ∧ N.2.2.2.2.2 ≤ rs then some [] else none
  | _, _ => none
theorem ng_end_ok {fg : eG} {rc rs : Nat} {ρ : Nat → Int} : nrl fg rc rs ρ (ng_end rc rs) := by
  intro B N l E h hB hN hq
  obtain ⟨d, ⟨y, pc, L, S⟩, F, M⟩ := N
  obtain ⟨d', ⟨y', pc', lv, st⟩, eF', μ⟩ := E
  obtain ⟨e1, ⟨e2, e3, hlen, hL, hS⟩, hF, hm⟩ := hN
  dsimp only at e1 e2 e3 hlen hL hS hF hm
  subst e1
  subst e2
  subst e3
  unfold ng_end at h
  dsimp only at h
  split at h
  · rename_i p n zz x hrow
    split at h
    · rename_i h0
      obtain ⟨hp, h1, h2, h3, h4⟩ := h0
      subst hp
      cases eF' with
      | cons a b => exact absurd hF id
      | nil =>
        have e8 : S % nW = 8 := by rw [h1]; decide
        have e4 : S / nW = 4 := by rw [h1]; decide
        obtain ⟨e, r, rfl, k1, k2⟩ := hS.pop (by rw [e8]; decide)
        rw [e4] at k2
        have hr := nS_4 k2
        subst hr
        rw [e8] at k1
        obtain ⟨-, rfl⟩ := cr_0 (by decide) k1
        have hs : sg32 (8 / 8) = 1 := rfl
        rw [hs] at *
        have hrt : ev_rt y .ireturn [eI 1] = some (some (eI 1)) := by
          show (if (dt_pl y).2.1 = 1 ∨ ((dt_pl y).2.1 = 2 ∧ (ev_w 1 = 0 ∨ ev_w 1 = 1)) then some (some (eI 1)) else none) = _
          have hw1 : ev_w 1 = 1 := by unfold ev_w; rfl
          rw [if_pos (by
            rcases h2 with q | q
            · exact Or.inl q
            · exact Or.inr ⟨q, Or.inr hw1⟩)]
        refine ⟨1, μ, ?_, by rw [hm.1]; exact h3, by rw [hm.2.1]; exact h4⟩
        rw [ex]
        unfold ex_1
        dsimp only
        rw [xs_rt hrow rfl hrt]
    · cases h
  · cases h
/-- all of them -/
noncomputable def dt_gn (ng : nG) (rc rs : Nat) : nR := fun B N => match ng_end rc rs B N with
  | some l => some l
  | none => (match ng_al ng B N with
    | some l => some l
    | none => (match ng_sw B N with
      | some l => some l
      | none => (match ng_cz B N with
        | some l => some l
        | none => (match ng_ab B N with
          | some l => some l
          | none => (match ng_j B N with
            | some l => some l
            | none => ng_bs B N)))))
theorem dt_gn_ok {ng : nG} {fg : eG} {rc rs : Nat} {ρ : Nat → Int} (hg : ng_r ρ ng fg) : nrl fg rc rs ρ (dt_gn ng rc rs) := by
  intro B N l E h hB hN hq
  unfold dt_gn at h
  split at h
  · rename_i l9 hl9
    cases h
    exact ng_end_ok B N _ E hl9 hB hN hq
  · split at h
    · rename_i l9 hl9
      cases h
      exact ng_al_ok hg B N _ E hl9 hB hN hq
    · split at h
      · rename_i l9 hl9
        cases h
        exact ng_sw_ok B N _ E hl9 hB hN hq
      · split at h
        · rename_i l9 hl9
          cases h
          exact ng_cz_ok B N _ E hl9 hB hN hq
        · split at h
          · rename_i l9 hl9
            cases h
            exact ng_ab_ok B N _ E hl9 hB hN hq
          · split at h
            · rename_i l9 hl9
              cases h
              exact ng_j_ok B N _ E hl9 hB hN hq
            · exact ng_bs_ok B N _ E h hB hN hq
