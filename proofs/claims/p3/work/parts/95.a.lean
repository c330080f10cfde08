theorem u_eq {M : Nat → Nat → Int} {r j c k : Nat} {x : Int} : ev_up M r j x c k = if c = r ∧ k = j then x else M c k := by
  unfold ev_up ev_ur ev_u1
  by_cases h1 : c = r
  · subst h1
    rw [if_pos rfl]
    by_cases h2 : k = j
    · rw [if_pos h2, if_pos ⟨rfl, h2⟩]
    · rw [if_neg h2, if_neg (fun q => h2 q.2)]
  · rw [if_neg h1, if_neg (fun q => h1 q.1)]
theorem s_al {L : Nat} {ρ : Nat → Int} {μ : eM} {r j : Nat} {i v : Int} (h1 : r ≠ 1) (h2 : r < 64) (h3 : 0 < r) (h4 : dt_sk r = 100) (h5 : i = (j : Int)) (h6 : j < (dt_sv r).length) (h7 : j < 1000) (h8 : (dt_sv r).getD j 0 = v) : ev_al (dt_fg L ρ) μ 100 r i = some v := by
  have e : dt_fg L ρ r = (dt_sk r, (dt_sv r).length, fun j => (dt_sv r).getD j 0) := by
    unfold dt_fg
    rw [if_neg h1]
  unfold ev_al
  rw [if_pos h2, e, h5, ev_w_in (by omega) (by omega), if_pos ⟨h3, h4, by omega, by show (j : Int) < ((dt_sv r).length : Int); omega⟩]
  show some ((dt_sv r).getD (j : Int).toNat 0) = some v
  rw [Int.toNat_natCast, h8]
