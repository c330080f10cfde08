/-! RENAMING: one step, the run -/
theorem rn_1 {Y : Nat → Bool} {WF : Nat → Nat → Bool} {ct : Bool} {fg : eG} {ρ : Nat → Nat} {D : Nat → Prop} {μ ν : eM} (h : RN ct ρ D μ ν) {d y pc : Nat} {q : eL} (hf : fcy Y WF ct q = true) {lv : List (Option eV)} {st : List eV} {E : eS} (hm : ev_1 fg d y pc q lv st μ = some E) (hk : kS D st) (hl : kL D lv) : match E with
    | .inl (.inl z) => ∃ ρ' D' ν', ev_1 fg d y pc q (fL ρ lv) (fS ρ st) ν = some (.inl (.inl (z.1, fL ρ' z.2.1, fS ρ' z.2.2.1, ν'))) ∧ RN ct ρ' D' z.2.2.2 ν' ∧ CH WF ρ D μ ν ρ' D' z.2.2.2 ν' ∧ kS D' z.2.2.1 ∧ kL D' z.2.1
    | .inl (.inr r) => ev_1 fg d y pc q (fL ρ lv) (fS ρ st) ν = some (.inl (.inr (r.map (fV ρ)))) ∧ ∀ v, r = some v → kV D v
    | .inr z => ev_1 fg d y pc q (fL ρ lv) (fS ρ st) ν = some (.inr (z.1, fS ρ z.2.1, fS ρ z.2.2)) ∧ kS D z.2.1 ∧ kS D z.2.2 ∧ Y z.1 = true := by
  obtain ⟨p0, i, n, ⟨a, b, t, pl⟩, x⟩ := q
  have hz := h.1.z
  unfold ev_1 at hm
  dsimp only at hm
  split at hm
  · rename_i hpc
    split at hm
    · rename_i w hw
      cases hm
      obtain ⟨g1, g2⟩ := rn_s hz i (D := D) lv st w hw
      refine ⟨ρ, D, ν, ?_, h, CH.r, (g2 hk hl).1, (g2 hk hl).2⟩
      unfold ev_1
      dsimp only
      rw [if_pos hpc, g1]
    · rename_i hs0
      split at hm
      · rename_i w hw
        cases hm
        have hkl : dt_kl i = 1 := by
          by_cases q : dt_kl i = 1
          · exact q
          · rw [kl_j q] at hw
            cases hw
        obtain ⟨g1, g2⟩ := rn_j hz (D := D) hw
        refine ⟨ρ, D, ν, ?_, h, CH.r, g2 hk, hl⟩
        unfold ev_1
        dsimp only
        rw [if_pos hpc, kl_s (by rw [hkl]; decide)]
        dsimp only
        rw [g1]
      · rename_i hj0
        split at hm
        · rename_i w hw
          cases hm
          have hkl : dt_kl i = 2 := by
            by_cases q : dt_kl i = 2
            · exact q
            · rw [kl_m q] at hw
              cases hw
          obtain ⟨ρ', D', ν', g1, g2, g3, g4⟩ := rn_m h hf (st' := w.1) (μ' := w.2) hw hk
          refine ⟨ρ', D', ν', ?_, g2, g3, g4, kL_up (fun r q => (g3.1 r q).1) hl⟩
          unfold ev_1
          dsimp only
          rw [if_pos hpc, kl_s (by rw [hkl]; decide)]
          dsimp only
          rw [kl_j (by rw [hkl]; decide)]
          dsimp only
          rw [g1, fL_up h.1 g2.1 (fun r q => (g3.1 r q).2) hl]
        · rename_i hm0
          split at hm
          · rename_i w hw
            cases hm
            have hkl : dt_kl i = 4 := by
              by_cases q : dt_kl i = 4
              · exact q
              · rw [kl_o q] at hw
                cases hw
            obtain ⟨ν', g1, g2, g3, g4⟩ := rn_o (WF := WF) h (st' := w.1) (μ' := w.2) hw hk
            refine ⟨ρ, D, ν', ?_, g2, g3, g4, hl⟩
            unfold ev_1
            dsimp only
            rw [if_pos hpc, kl_s (by rw [hkl]; decide)]
            dsimp only
            rw [kl_j (by rw [hkl]; decide)]
            dsimp only
            rw [kl_m (by rw [hkl]; decide)]
            dsimp only
            rw [g1]
          · rename_i ho0
            split at hm
            · rename_i r hr
              cases hm
              have hkl : dt_kl i = 3 := by
                by_cases q : dt_kl i = 3
                · exact q
                · rw [kl_rt q] at hr
                  cases hr
              obtain ⟨g1, g2⟩ := rn_rt (ρ := ρ) hr hk
              refine ⟨?_, g2⟩
              unfold ev_1
              dsimp only
              rw [if_pos hpc, kl_s (by rw [hkl]; decide)]
              dsimp only
              rw [kl_j (by rw [hkl]; decide)]
              dsimp only
              rw [kl_m (by rw [hkl]; decide)]
              dsimp only
              rw [kl_o (by rw [hkl]; decide)]
              dsimp only
              rw [g1]
            · rename_i hr0
              split at hm
              · rename_i w hw
                cases hm
                obtain ⟨ha, hkl⟩ := cl2_a hw
                obtain ⟨g1, g2, g3, g4⟩ := rn_cl2 h hf (as := w.1) (rs := w.2) hw hk
                refine ⟨?_, g2, g3, g4⟩
                unfold ev_1
                dsimp only
                rw [if_pos hpc, kl_s (by rw [hkl]; decide)]
                dsimp only
                rw [kl_j (by rw [hkl]; decide)]
                dsimp only
                rw [kl_m (by rw [hkl]; decide)]
                dsimp only
                rw [o_no (by omega) (by omega) (by omega)]
                dsimp only
                rw [kl_rt (by rw [hkl]; decide)]
                dsimp only
                rw [g1]
              · rename_i hc0
                split at hm
                · rename_i s hs
                  cases hm
                  obtain ⟨g1, g2⟩ := rn_u (ρ := ρ) h.1 hs hk
                  refine ⟨ρ, D, ν, ?_, h, CH.r, g2, hl⟩
                  unfold ev_1
                  dsimp only
                  rcases u_a hs with ⟨ha, hkl, hmn⟩ | ⟨ha, hkl⟩
                  · rw [if_pos hpc, kl_s (by rw [hkl]; decide)]
                    dsimp only
                    rw [kl_j (by rw [hkl]; decide)]
                    dsimp only
                    rw [hmn]
                    dsimp only
                    rw [kl_o (by rw [hkl]; decide)]
                    dsimp only
                    rw [kl_rt (by rw [hkl]; decide)]
                    dsimp only
                    rw [cl2_no (Or.inl (by omega))]
                    dsimp only
                    rw [g1]
                  · rw [if_pos hpc, kl_s (by rw [hkl]; decide)]
                    dsimp only
                    rw [kl_j (by rw [hkl]; decide)]
                    dsimp only
                    rw [kl_m (by rw [hkl]; decide)]
                    dsimp only
                    rw [o_no (by omega) (by omega) (by omega)]
                    dsimp only
                    rw [kl_rt (by rw [hkl]; decide)]
                    dsimp only
                    rw [cl2_no (Or.inl (by omega))]
                    dsimp only
                    rw [g1]
                · cases hm
  · cases hm
theorem rn_ev {fg : eG} {Y : Nat → Bool} {WF : Nat → Nat → Bool} {ct : Bool} (hY : ∀ y, Y y = true → ∀ pc, fcy Y WF ct ((dt_co y).get pc) = true) : ∀ (n d y pc : Nat) (lv : List (Option eV)) (st : List eV) (μ : eM) (r : Option eV) (μ' : eM), ev fg n d y pc lv st μ = some (r, μ') → ∀ (ρ : Nat → Nat) (D : Nat → Prop) (ν : eM), Y y = true → RN ct ρ D μ ν → kS D st → kL D lv → ∃ ρ' D' ν', ev fg n d y pc (fL ρ lv) (fS ρ st) ν = some (r.map (fV ρ'), ν') ∧ RN ct ρ' D' μ' ν' ∧ CH WF ρ D μ ν ρ' D' μ' ν' ∧ ∀ v, r = some v → kV D' v := by
  intro n
  induction n with
  | zero =>
    intro d y pc lv st μ r μ' h
    cases h
  | succ n ih =>
    intro d y pc lv st μ r μ' h ρ D ν hy hR hk hl
    rw [ev] at h ⊢
    split at h
    · rename_i z hz
      obtain ⟨ρ1, D1, ν1, g1, g2, g3, g4, g5⟩ := rn_1 hR (hY y hy pc) hz hk hl
      obtain ⟨ρ2, D2, ν2, k1, k2, k3, k4⟩ := ih _ _ _ _ _ _ _ _ h ρ1 D1 ν1 hy g2 g4 g5
      refine ⟨ρ2, D2, ν2, ?_, k2, g3.t hR k3, k4⟩
      rw [g1]
      exact k1
    · rename_i r0 hz
      cases h
      obtain ⟨g1, g2⟩ := rn_1 hR (hY y hy pc) hz hk hl
      refine ⟨ρ, D, ν, ?_, hR, CH.r, g2⟩
      rw [g1]
    · rename_i z hz
      obtain ⟨g1, g2, g3, gy⟩ := rn_1 hR (hY y hy pc) hz hk hl
      split at h
      · rename_i hd
        split at h
        · rename_i w hw
          obtain ⟨ρ1, D1, ν1, k1, k2, k3, k4⟩ := ih _ _ _ _ _ _ w.1 w.2 hw ρ D ν gy hR (fun v hv => by cases hv) (kL_en _ g2)
          have g3' : kS D1 z.2.2 := kS_up (fun r q => (k3.1 r q).1) g3
          have hl' : kL D1 lv := kL_up (fun r q => (k3.1 r q).1) hl
          have hs : kS D1 (w.1.toList ++ z.2.2) := by
            intro v hv
            rcases List.mem_append.mp hv with q | q
            · exact k4 v (Option.mem_toList.mp q)
            · exact g3' v q
          obtain ⟨ρ2, D2, ν2, j1, j2, j3, j4⟩ := ih _ _ _ _ _ _ _ _ h ρ1 D1 ν1 hy k2 hs hl'
          refine ⟨ρ2, D2, ν2, ?_, j2, k3.t hR j3, j4⟩
          rw [g1]
          dsimp only
          rw [if_pos hd, fL_en]
          have e0 : fS ρ [] = [] := rfl
          rw [e0] at k1
          rw [k1]
          dsimp only
          rw [← fL_up hR.1 k2.1 (fun r q => (k3.1 r q).2) hl, ← fS_up hR.1 k2.1 (fun r q => (k3.1 r q).2) g3]
          have e1 : (w.1.map (fV ρ1)).toList ++ fS ρ1 z.2.2 = fS ρ1 (w.1.toList ++ z.2.2) := by
            rw [show fS ρ1 (w.1.toList ++ z.2.2) = fS ρ1 w.1.toList ++ fS ρ1 z.2.2 from List.map_append]
            cases w.1 <;> rfl
          rw [e1]
          exact j1
        · cases h
      · cases h
    · cases h
