/-! SORTIN ends: a filling begins with some sort -/
theorem wT_ne {G : Int → Int → Int → Int} {w f l : Int} : ∀ n : Nat, wT G w f l n ≠ 0 → ∃ k : Nat, k < n ∧ (dt_sv 22).getD k 0 ≤ w ∧ (dt_sv 23).getD k 0 = f ∧ G (w - (dt_sv 22).getD k 0) ((dt_sv 24).getD k 0) l ≠ 0 := by
  intro n
  induction n with
  | zero => intro h; exact absurd rfl h
  | succ n ih =>
    intro h
    have h2 : (if (dt_sv 22).getD n 0 ≤ w ∧ (dt_sv 23).getD n 0 = f then ev_w (wT G w f l n + G (w - (dt_sv 22).getD n 0) ((dt_sv 24).getD n 0) l) else wT G w f l n) ≠ 0 := h
    by_cases hc : (dt_sv 22).getD n 0 ≤ w ∧ (dt_sv 23).getD n 0 = f
    · rw [if_pos hc] at h2
      by_cases hg : G (w - (dt_sv 22).getD n 0) ((dt_sv 24).getD n 0) l = 0
      · by_cases hw : wT G w f l n = 0
        · rw [hw, hg] at h2
          exact absurd (show ev_w (0 + 0) = 0 by decide) h2
        · obtain ⟨k, h3, h4⟩ := ih hw
          exact ⟨k, by omega, h4⟩
      · exact ⟨n, by omega, hc.1, hc.2, hg⟩
    · rw [if_neg hc] at h2
      obtain ⟨k, h3, h4⟩ := ih h2
      exact ⟨k, by omega, h4⟩
theorem sw_1 : ∀ k, k < 8 → 1 ≤ (dt_sv 22).getD k 0 := by decide +kernel
theorem wT_c {G G2 : Int → Int → Int → Int} {w f l : Int} : ∀ n : Nat, (∀ k, k < n → (dt_sv 22).getD k 0 ≤ w → ∀ x y, G (w - (dt_sv 22).getD k 0) x y = G2 (w - (dt_sv 22).getD k 0) x y) → wT G w f l n = wT G2 w f l n := by
  intro n
  induction n with
  | zero => intro _; rfl
  | succ n ih =>
    intro h
    show (if _ ∧ _ then ev_w (wT G w f l n + _) else wT G w f l n) = (if _ ∧ _ then ev_w (wT G2 w f l n + _) else wT G2 w f l n)
    rw [ih (fun k hk => h k (by omega))]
    by_cases hc : (dt_sv 22).getD n 0 ≤ w ∧ (dt_sv 23).getD n 0 = f
    · rw [if_pos hc, if_pos hc, h n (by omega) hc.1]
    · rw [if_neg hc, if_neg hc]
theorem wW_f : ∀ (n : Nat) (w f l : Int), 0 ≤ w → w ≤ n → wW (n + 1) w f l = wW n w f l := by
  intro n
  induction n with
  | zero =>
    intro w f l h0 h1
    show (if w = 0 then _ else _) = _
    rw [if_pos (by omega)]
    rfl
  | succ n ih =>
    intro w f l h0 h1
    show (if w = 0 then _ else wT (wW (n + 1)) w f l 8) = if w = 0 then _ else wT (wW n) w f l 8
    by_cases hw : w = 0
    · rw [if_pos hw, if_pos hw]
    · rw [if_neg hw, if_neg hw]
      exact wT_c 8 (fun k hk hle x y => ih _ _ _ (by omega) (by have := sw_1 k hk; omega))
theorem so_ex {w f l : Int} (h0 : 1 ≤ w ∧ w ≤ 9) (h : wW 9 w f l ≠ 0) : ∃ k : Nat, k < 8 ∧ (dt_sv 22).getD k 0 ≤ w ∧ (dt_sv 23).getD k 0 = f ∧ wW 9 (w - (dt_sv 22).getD k 0) ((dt_sv 24).getD k 0) l ≠ 0 := by
  have h2 : (if w = 0 then (if f = l then (1 : Int) else 0) else wT (wW 8) w f l 8) ≠ 0 := h
  rw [if_neg (by omega)] at h2
  obtain ⟨k, h3, h4, h5, h6⟩ := wT_ne 8 h2
  refine ⟨k, h3, h4, h5, ?_⟩
  rw [wW_f 8 _ _ _ (by omega) (by have := sw_1 k h3; omega)]
  exact h6
/-- a sort that doesn't fit isn't the one -/
theorem so_1 {k v w : Int} {k0 : Nat} (h0 : 0 ≤ k) (e : v = (dt_sv 22).getD k.toNat 0) (h : w < v) (hk : (dt_sv 22).getD k0 0 ≤ w) (hle : k ≤ (k0 : Int)) : k + 1 ≤ (k0 : Int) := by
  by_cases hq : k = (k0 : Int)
  · subst hq
    rw [Int.toNat_natCast] at e
    omega
  · omega
theorem so_2 {k u f : Int} {k0 : Nat} (h0 : 0 ≤ k) (e : u = (dt_sv 23).getD k.toNat 0) (h : ¬ u = f) (hk : (dt_sv 23).getD k0 0 = f) (hle : k ≤ (k0 : Int)) : k + 1 ≤ (k0 : Int) := by
  by_cases hq : k = (k0 : Int)
  · subst hq
    rw [Int.toNat_natCast] at e
    exact absurd (e.trans hk) h
  · omega
theorem so_3 {k v z w l q r : Int} {k0 : Nat} (h0 : 0 ≤ k) (e : v = (dt_sv 22).getD k.toNat 0) (e3 : z = (dt_sv 24).getD k.toNat 0) (hq : q = w - v) (er : r = wW 9 q z l) (h : r = 0) (hk : wW 9 (w - (dt_sv 22).getD k0 0) ((dt_sv 24).getD k0 0) l ≠ 0) (hle : k ≤ (k0 : Int)) : k + 1 ≤ (k0 : Int) := by
  by_cases hz : k = (k0 : Int)
  · subst hz
    rw [Int.toNat_natCast] at e e3
    rw [← e, ← e3, ← hq, ← er] at hk
    exact absurd h hk
  · omega
