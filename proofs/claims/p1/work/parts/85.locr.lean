/-! locate: the reference -/
theorem u_eq {M : Nat → Nat → Int} {r j c k : Nat} {x : Int} : ev_up M r j x c k = if c = r ∧ k = j then x else M c k := by
  unfold ev_up ev_ur ev_u1
  by_cases h1 : c = r
  · subst h1
    rw [if_pos rfl]
    by_cases h2 : k = j
    · rw [if_pos h2, if_pos ⟨rfl, h2⟩]
    · rw [if_neg h2, if_neg (fun q => h2 q.2)]
  · rw [if_neg h1, if_neg (fun q => h1 q.1)]
/-- nothing but the vector at hand has changed -/
def tS (a b : eM) : Prop := b.2 = a.2 ∧ ∀ c k : Nat, ¬ (c = 98 ∧ 2 ≤ k ∧ k ≤ 5) → b.1 c k = a.1 c k
theorem tS_r (a : eM) : tS a a := ⟨rfl, fun _ _ _ => rfl⟩
theorem tS_tr {a b c : eM} (h : tS a b) (h2 : tS b c) : tS a c := ⟨h2.1.trans h.1, fun q k hk => (h2.2 q k hk).trans (h.2 q k hk)⟩
theorem tS_kd {a b : eM} {r k : Nat} (h : tS a b) (hk : ev_kd a r = some k) : ev_kd b r = some k := by
  unfold ev_kd at hk ⊢
  rw [h.1]
  exact hk
theorem t219 {fg : eG} {rc rs d : Nat} {f : eFr} {F : List eFr} {μ : eM} {p q r s : Int} (hk : ev_kd μ 98 = some 11) (K : ∀ μ2 : eM, tS μ μ2 → μ2.1 98 2 = p → μ2.1 98 3 = q → μ2.1 98 4 = r → μ2.1 98 5 = s → ex_fine fg rc rs (d + 1, (f.1, f.2.1, f.2.2.1, f.2.2.2), F, μ2)) : ex_fine fg rc rs (d, (219, 0, [some (eR 98), some (eJ (p)), none, some (eJ (q)), none, some (eJ (r)), none, some (eJ (s)), none], []), f :: F, μ) := by
  refine w_s (np := 1) (lv' := [some (eR 98), some (eJ (p)), none, some (eJ (q)), none, some (eJ (r)), none, some (eJ (s)), none]) (st' := [eR 98]) rfl (s_an rfl (by decide)) rfl ?_
  refine w_s (np := 2) (lv' := [some (eR 98), some (eJ (p)), none, some (eJ (q)), none, some (eJ (r)), none, some (eJ (s)), none]) (st' := [eJ (p), eR 98]) rfl rfl rfl ?_
  refine b_pf (np := 5) (w := p) rfl rfl hk rfl ?_
  refine w_s (np := 6) (lv' := [some (eR 98), some (eJ (p)), none, some (eJ (q)), none, some (eJ (r)), none, some (eJ (s)), none]) (st' := [eR 98]) rfl (s_an rfl (by decide)) rfl ?_
  refine w_s (np := 7) (lv' := [some (eR 98), some (eJ (p)), none, some (eJ (q)), none, some (eJ (r)), none, some (eJ (s)), none]) (st' := [eJ (q), eR 98]) rfl rfl rfl ?_
  refine b_pf (np := 10) (w := q) rfl rfl hk rfl ?_
  refine w_s (np := 11) (lv' := [some (eR 98), some (eJ (p)), none, some (eJ (q)), none, some (eJ (r)), none, some (eJ (s)), none]) (st' := [eR 98]) rfl (s_an rfl (by decide)) rfl ?_
  refine w_s (np := 13) (lv' := [some (eR 98), some (eJ (p)), none, some (eJ (q)), none, some (eJ (r)), none, some (eJ (s)), none]) (st' := [eJ (r), eR 98]) rfl rfl rfl ?_
  refine b_pf (np := 16) (w := r) rfl rfl hk rfl ?_
  refine w_s (np := 17) (lv' := [some (eR 98), some (eJ (p)), none, some (eJ (q)), none, some (eJ (r)), none, some (eJ (s)), none]) (st' := [eR 98]) rfl (s_an rfl (by decide)) rfl ?_
  refine w_s (np := 19) (lv' := [some (eR 98), some (eJ (p)), none, some (eJ (q)), none, some (eJ (r)), none, some (eJ (s)), none]) (st' := [eJ (s), eR 98]) rfl rfl rfl ?_
  refine b_pf (np := 22) (w := s) rfl rfl hk rfl ?_
  refine v_rv rfl rfl (K _ ⟨rfl, fun c k h => ?_⟩ ?_ ?_ ?_ ?_)
  · show ev_up (ev_up (ev_up (ev_up μ.1 98 2 p) 98 3 q) 98 4 r) 98 5 s c k = μ.1 c k
    rw [u_eq, if_neg (by omega), u_eq, if_neg (by omega), u_eq, if_neg (by omega), u_eq, if_neg (by omega)]
  · show ev_up (ev_up (ev_up (ev_up μ.1 98 2 p) 98 3 q) 98 4 r) 98 5 s 98 2 = p
    rw [u_eq, if_neg (by omega), u_eq, if_neg (by omega), u_eq, if_neg (by omega), u_eq, if_pos ⟨rfl, rfl⟩]
  · show ev_up (ev_up (ev_up (ev_up μ.1 98 2 p) 98 3 q) 98 4 r) 98 5 s 98 3 = q
    rw [u_eq, if_neg (by omega), u_eq, if_neg (by omega), u_eq, if_pos ⟨rfl, rfl⟩]
  · show ev_up (ev_up (ev_up (ev_up μ.1 98 2 p) 98 3 q) 98 4 r) 98 5 s 98 4 = r
    rw [u_eq, if_neg (by omega), u_eq, if_pos ⟨rfl, rfl⟩]
  · show ev_up (ev_up (ev_up (ev_up μ.1 98 2 p) 98 3 q) 98 4 r) 98 5 s 98 5 = s
    rw [u_eq, if_pos ⟨rfl, rfl⟩]
theorem t221 {fg : eG} {rc rs d : Nat} {f : eFr} {F : List eFr} {μ : eM} {a b c e : Int} (hk : ev_kd μ 98 = some 11) (f2 : μ.1 98 2 = a) (f3 : μ.1 98 3 = b) (f4 : μ.1 98 4 = c) (f5 : μ.1 98 5 = e) (ha : -1000000 ≤ a ∧ a ≤ 1000000) (hb : -1000000 ≤ b ∧ b ≤ 1000000) (hc : -1000000 ≤ c ∧ c ≤ 1000000) (he : -1000000 ≤ e ∧ e ≤ 1000000) (K : ∀ μ2 : eM, tS μ μ2 → μ2.1 98 2 = a + b → μ2.1 98 3 = 0 - b → μ2.1 98 4 = b - e → μ2.1 98 5 = 0 - b - c → ex_fine fg rc rs (d + 2, (f.1, f.2.1, f.2.2.1, f.2.2.2), F, μ2)) : ex_fine fg rc rs (d + 1, (221, 0, [some (eR 98)], []), f :: F, μ) := by
  refine w_s (np := 1) (lv' := [some (eR 98)]) (st' := [eR 98]) rfl (s_an rfl (by decide)) rfl ?_
  refine w_s (np := 2) (lv' := [some (eR 98)]) (st' := [eR 98, eR 98]) rfl (s_an rfl (by decide)) rfl ?_
  refine w_gf (np := 5) (v := eJ (a)) rfl rfl hk (by rw [f2]; rfl) ?_
  refine w_s (np := 6) (lv' := [some (eR 98)]) (st' := [eR 98, eJ (a), eR 98]) rfl (s_an rfl (by decide)) rfl ?_
  refine w_gf (np := 9) (v := eJ (b)) rfl rfl hk (by rw [f3]; rfl) ?_
  obtain ⟨v1, e2⟩ : ∃ v : Int, v = (a) + (b) := ⟨_, rfl⟩
  have b3 : -2000000 ≤ v1 ∧ v1 ≤ 2000000 := by omega
  refine w_s (np := 10) (lv' := [some (eR 98)]) (st' := [eJ (v1), eR 98]) rfl (b_ladd (by rw [← e2]; exact ev_W_in (by omega) (by omega))) rfl ?_
  refine w_s (np := 11) (lv' := [some (eR 98)]) (st' := [eJ (0), eJ (v1), eR 98]) rfl rfl rfl ?_
  refine w_s (np := 12) (lv' := [some (eR 98)]) (st' := [eR 98, eJ (0), eJ (v1), eR 98]) rfl (s_an rfl (by decide)) rfl ?_
  refine w_gf (np := 15) (v := eJ (b)) rfl rfl hk (by rw [f3]; rfl) ?_
  obtain ⟨v4, e5⟩ : ∃ v : Int, v = (0) - (b) := ⟨_, rfl⟩
  have b6 : -1000000 ≤ v4 ∧ v4 ≤ 1000000 := by omega
  refine w_s (np := 16) (lv' := [some (eR 98)]) (st' := [eJ (v4), eJ (v1), eR 98]) rfl (b_lsub (by rw [← e5]; exact ev_W_in (by omega) (by omega))) rfl ?_
  refine w_s (np := 17) (lv' := [some (eR 98)]) (st' := [eR 98, eJ (v4), eJ (v1), eR 98]) rfl (s_an rfl (by decide)) rfl ?_
  refine w_gf (np := 20) (v := eJ (b)) rfl rfl hk (by rw [f3]; rfl) ?_
  refine w_s (np := 21) (lv' := [some (eR 98)]) (st' := [eR 98, eJ (b), eJ (v4), eJ (v1), eR 98]) rfl (s_an rfl (by decide)) rfl ?_
  refine w_gf (np := 24) (v := eJ (e)) rfl rfl hk (by rw [f5]; rfl) ?_
  obtain ⟨v7, e8⟩ : ∃ v : Int, v = (b) - (e) := ⟨_, rfl⟩
  have b9 : -2000000 ≤ v7 ∧ v7 ≤ 2000000 := by omega
  refine w_s (np := 25) (lv' := [some (eR 98)]) (st' := [eJ (v7), eJ (v4), eJ (v1), eR 98]) rfl (b_lsub (by rw [← e8]; exact ev_W_in (by omega) (by omega))) rfl ?_
  refine w_s (np := 26) (lv' := [some (eR 98)]) (st' := [eJ (0), eJ (v7), eJ (v4), eJ (v1), eR 98]) rfl rfl rfl ?_
  refine w_s (np := 27) (lv' := [some (eR 98)]) (st' := [eR 98, eJ (0), eJ (v7), eJ (v4), eJ (v1), eR 98]) rfl (s_an rfl (by decide)) rfl ?_
  refine w_gf (np := 30) (v := eJ (b)) rfl rfl hk (by rw [f3]; rfl) ?_
  obtain ⟨v10, e11⟩ : ∃ v : Int, v = (0) - (b) := ⟨_, rfl⟩
  have b12 : -1000000 ≤ v10 ∧ v10 ≤ 1000000 := by omega
  refine w_s (np := 31) (lv' := [some (eR 98)]) (st' := [eJ (v10), eJ (v7), eJ (v4), eJ (v1), eR 98]) rfl (b_lsub (by rw [← e11]; exact ev_W_in (by omega) (by omega))) rfl ?_
  refine w_s (np := 32) (lv' := [some (eR 98)]) (st' := [eR 98, eJ (v10), eJ (v7), eJ (v4), eJ (v1), eR 98]) rfl (s_an rfl (by decide)) rfl ?_
  refine w_gf (np := 35) (v := eJ (c)) rfl rfl hk (by rw [f4]; rfl) ?_
  obtain ⟨v13, e14⟩ : ∃ v : Int, v = (v10) - (c) := ⟨_, rfl⟩
  have b15 : -2000000 ≤ v13 ∧ v13 ≤ 2000000 := by omega
  refine w_s (np := 36) (lv' := [some (eR 98)]) (st' := [eJ (v13), eJ (v7), eJ (v4), eJ (v1), eR 98]) rfl (b_lsub (by rw [← e14]; exact ev_W_in (by omega) (by omega))) rfl ?_
  refine w_cv (np := 39) (as := [eJ (v1), eJ (v4), eJ (v7), eJ (v13)]) (lv' := [some (eR 98), some (eJ (v1)), none, some (eJ (v4)), none, some (eJ (v7)), none, some (eJ (v13)), none]) (rest := []) rfl rfl rfl (Nat.ble_eq.mp rfl) rfl rfl rfl hk rfl ?_
  refine t219 hk ?_
  intro m16 s17 f18 f19 f20 f21
  have k22 := tS_kd s17 hk
  show ex_fine fg rc rs (d + 1, (221, 39, [some (eR 98)], []), f :: F, m16)
  refine v_rv rfl rfl (K _ s17 (f18.trans (by omega)) (f19.trans (by omega)) (f20.trans (by omega)) (f21.trans (by omega)))
theorem t220 {fg : eG} {rc rs d : Nat} {f : eFr} {F : List eFr} {μ : eM} {a b c e : Int} (hk : ev_kd μ 98 = some 11) (f2 : μ.1 98 2 = a) (f3 : μ.1 98 3 = b) (f4 : μ.1 98 4 = c) (f5 : μ.1 98 5 = e) (ha : -1000000 ≤ a ∧ a ≤ 1000000) (hb : -1000000 ≤ b ∧ b ≤ 1000000) (hc : -1000000 ≤ c ∧ c ≤ 1000000) (he : -1000000 ≤ e ∧ e ≤ 1000000) (K : ∀ μ2 : eM, tS μ μ2 → μ2.1 98 2 = 0 - e → μ2.1 98 3 = a + e → μ2.1 98 4 = b - e → μ2.1 98 5 = c + e → ex_fine fg rc rs (d + 2, (f.1, f.2.1, f.2.2.1, f.2.2.2), F, μ2)) : ex_fine fg rc rs (d + 1, (220, 0, [some (eR 98)], []), f :: F, μ) := by
  refine w_s (np := 1) (lv' := [some (eR 98)]) (st' := [eR 98]) rfl (s_an rfl (by decide)) rfl ?_
  refine w_s (np := 2) (lv' := [some (eR 98)]) (st' := [eJ (0), eR 98]) rfl rfl rfl ?_
  refine w_s (np := 3) (lv' := [some (eR 98)]) (st' := [eR 98, eJ (0), eR 98]) rfl (s_an rfl (by decide)) rfl ?_
  refine w_gf (np := 6) (v := eJ (e)) rfl rfl hk (by rw [f5]; rfl) ?_
  obtain ⟨v1, e2⟩ : ∃ v : Int, v = (0) - (e) := ⟨_, rfl⟩
  have b3 : -1000000 ≤ v1 ∧ v1 ≤ 1000000 := by omega
  refine w_s (np := 7) (lv' := [some (eR 98)]) (st' := [eJ (v1), eR 98]) rfl (b_lsub (by rw [← e2]; exact ev_W_in (by omega) (by omega))) rfl ?_
  refine w_s (np := 8) (lv' := [some (eR 98)]) (st' := [eR 98, eJ (v1), eR 98]) rfl (s_an rfl (by decide)) rfl ?_
  refine w_gf (np := 11) (v := eJ (a)) rfl rfl hk (by rw [f2]; rfl) ?_
  refine w_s (np := 12) (lv' := [some (eR 98)]) (st' := [eR 98, eJ (a), eJ (v1), eR 98]) rfl (s_an rfl (by decide)) rfl ?_
  refine w_gf (np := 15) (v := eJ (e)) rfl rfl hk (by rw [f5]; rfl) ?_
  obtain ⟨v4, e5⟩ : ∃ v : Int, v = (a) + (e) := ⟨_, rfl⟩
  have b6 : -2000000 ≤ v4 ∧ v4 ≤ 2000000 := by omega
  refine w_s (np := 16) (lv' := [some (eR 98)]) (st' := [eJ (v4), eJ (v1), eR 98]) rfl (b_ladd (by rw [← e5]; exact ev_W_in (by omega) (by omega))) rfl ?_
  refine w_s (np := 17) (lv' := [some (eR 98)]) (st' := [eR 98, eJ (v4), eJ (v1), eR 98]) rfl (s_an rfl (by decide)) rfl ?_
  refine w_gf (np := 20) (v := eJ (b)) rfl rfl hk (by rw [f3]; rfl) ?_
  refine w_s (np := 21) (lv' := [some (eR 98)]) (st' := [eR 98, eJ (b), eJ (v4), eJ (v1), eR 98]) rfl (s_an rfl (by decide)) rfl ?_
  refine w_gf (np := 24) (v := eJ (e)) rfl rfl hk (by rw [f5]; rfl) ?_
  obtain ⟨v7, e8⟩ : ∃ v : Int, v = (b) - (e) := ⟨_, rfl⟩
  have b9 : -2000000 ≤ v7 ∧ v7 ≤ 2000000 := by omega
  refine w_s (np := 25) (lv' := [some (eR 98)]) (st' := [eJ (v7), eJ (v4), eJ (v1), eR 98]) rfl (b_lsub (by rw [← e8]; exact ev_W_in (by omega) (by omega))) rfl ?_
  refine w_s (np := 26) (lv' := [some (eR 98)]) (st' := [eR 98, eJ (v7), eJ (v4), eJ (v1), eR 98]) rfl (s_an rfl (by decide)) rfl ?_
  refine w_gf (np := 29) (v := eJ (c)) rfl rfl hk (by rw [f4]; rfl) ?_
  refine w_s (np := 30) (lv' := [some (eR 98)]) (st' := [eR 98, eJ (c), eJ (v7), eJ (v4), eJ (v1), eR 98]) rfl (s_an rfl (by decide)) rfl ?_
  refine w_gf (np := 33) (v := eJ (e)) rfl rfl hk (by rw [f5]; rfl) ?_
  obtain ⟨v10, e11⟩ : ∃ v : Int, v = (c) + (e) := ⟨_, rfl⟩
  have b12 : -2000000 ≤ v10 ∧ v10 ≤ 2000000 := by omega
  refine w_s (np := 34) (lv' := [some (eR 98)]) (st' := [eJ (v10), eJ (v7), eJ (v4), eJ (v1), eR 98]) rfl (b_ladd (by rw [← e11]; exact ev_W_in (by omega) (by omega))) rfl ?_
  refine w_cv (np := 37) (as := [eJ (v1), eJ (v4), eJ (v7), eJ (v10)]) (lv' := [some (eR 98), some (eJ (v1)), none, some (eJ (v4)), none, some (eJ (v7)), none, some (eJ (v10)), none]) (rest := []) rfl rfl rfl (Nat.ble_eq.mp rfl) rfl rfl rfl hk rfl ?_
  refine t219 hk ?_
  intro m13 s14 f15 f16 f17 f18
  have k19 := tS_kd s14 hk
  show ex_fine fg rc rs (d + 1, (220, 37, [some (eR 98)], []), f :: F, m13)
  refine v_rv rfl rfl (K _ s14 (f15.trans (by omega)) (f16.trans (by omega)) (f17.trans (by omega)) (f18.trans (by omega)))
theorem t223 {fg : eG} {rc rs d : Nat} {f : eFr} {F : List eFr} {μ : eM} {p q r s t u v w : Int} (hk : ev_kd μ 98 = some 11) (f2 : μ.1 98 2 = p) (f3 : μ.1 98 3 = q) (f4 : μ.1 98 4 = r) (f5 : μ.1 98 5 = s) (hp : -8 ≤ p ∧ p ≤ 8) (hq : -8 ≤ q ∧ q ≤ 8) (hr : -8 ≤ r ∧ r ≤ 8) (hs : -8 ≤ s ∧ s ≤ 8) (ht : -100000 ≤ t ∧ t ≤ 100000) (hu : -100000 ≤ u ∧ u ≤ 100000) (hv : -100000 ≤ v ∧ v ≤ 100000) (hw : -100000 ≤ w ∧ w ≤ 100000) (K : ∀ (μ2 : eM) (A B C E : Int), tS μ μ2 → μ2.1 98 2 = A → μ2.1 98 3 = B → μ2.1 98 4 = C → μ2.1 98 5 = E → B = ((((((((((p) + (q))) * (u))) + (((((0) - (q))) * (((t) + (w))))))) + (((((q) - (s))) * (((((0) - (w))) + (((v) + (w))))))))) + (((((((0) - (q))) - (r))) * (((((0) - (((v) + (w))))) + (((((u) - (w))) + (((v) + (w)))))))))) → C + E = ((((((((((p) + (q))) * (v))) + (((((0) - (q))) * (((u) - (w))))))) + (((((q) - (s))) * (((((t) + (w))) - (((v) + (w))))))))) + (((((((0) - (q))) - (r))) * (((((((0) - (w))) + (((v) + (w))))) - (((((u) - (w))) + (((v) + (w)))))))))) + ((((((((((p) + (q))) * (w))) + (((((0) - (q))) * (((v) + (w))))))) + (((((q) - (s))) * (((((u) - (w))) + (((v) + (w))))))))) + (((((((0) - (q))) - (r))) * (((((((t) + (w))) - (((v) + (w))))) + (((((u) - (w))) + (((v) + (w)))))))))) → (-17600000 ≤ B ∧ B ≤ 17600000) → (-20800000 ≤ C ∧ C ≤ 20800000) → (-22400000 ≤ E ∧ E ≤ 22400000) → ex_fine fg rc rs (d + 3, (f.1, f.2.1, f.2.2.1, f.2.2.2), F, μ2)) : ex_fine fg rc rs (d + 2, (223, 0, [some (eR 98), some (eJ (t)), none, some (eJ (u)), none, some (eJ (v)), none, some (eJ (w)), none, none, none, none, none, none, none, none, none, none, none, none, none, none, none, none, none], []), f :: F, μ) := by
  refine w_s (np := 1) (lv' := [some (eR 98), some (eJ (t)), none, some (eJ (u)), none, some (eJ (v)), none, some (eJ (w)), none, none, none, none, none, none, none, none, none, none, none, none, none, none, none, none, none]) (st' := [eR 98]) rfl (s_an rfl (by decide)) rfl ?_
  refine w_cv (np := 4) (as := []) (lv' := [some (eR 98)]) (rest := []) rfl rfl rfl (Nat.ble_eq.mp rfl) rfl rfl rfl hk rfl ?_
  refine t221 hk f2 f3 f4 f5 (show (-1000000 : Int) ≤ p ∧ (p : Int) ≤ 1000000 by omega) (show (-1000000 : Int) ≤ q ∧ (q : Int) ≤ 1000000 by omega) (show (-1000000 : Int) ≤ r ∧ (r : Int) ≤ 1000000 by omega) (show (-1000000 : Int) ≤ s ∧ (s : Int) ≤ 1000000 by omega) ?_
  intro m1 s2 f3 f4 f5 f6
  have k7 := tS_kd s2 hk
  obtain ⟨v8, e9⟩ : ∃ v : Int, v = (p) + (q) := ⟨_, rfl⟩
  have b10 : -16 ≤ v8 ∧ v8 ≤ 16 := by omega
  rw [← e9] at f3
  obtain ⟨v11, e12⟩ : ∃ v : Int, v = (0) - (q) := ⟨_, rfl⟩
  have b13 : -8 ≤ v11 ∧ v11 ≤ 8 := by omega
  rw [← e12] at f4
  obtain ⟨v14, e15⟩ : ∃ v : Int, v = (q) - (s) := ⟨_, rfl⟩
  have b16 : -16 ≤ v14 ∧ v14 ≤ 16 := by omega
  rw [← e15] at f5
  obtain ⟨v17, e18⟩ : ∃ v : Int, v = (0) - (q) := ⟨_, rfl⟩
  have b19 : -8 ≤ v17 ∧ v17 ≤ 8 := by omega
  obtain ⟨v20, e21⟩ : ∃ v : Int, v = (v17) - (r) := ⟨_, rfl⟩
  have b22 : -16 ≤ v20 ∧ v20 ≤ 16 := by omega
  rw [← e18, ← e21] at f6
  show ex_fine fg rc rs (d + 2, (223, 4, [some (eR 98), some (eJ (t)), none, some (eJ (u)), none, some (eJ (v)), none, some (eJ (w)), none, none, none, none, none, none, none, none, none, none, none, none, none, none, none, none, none], []), f :: F, m1)
  refine w_s (np := 5) (lv' := [some (eR 98), some (eJ (t)), none, some (eJ (u)), none, some (eJ (v)), none, some (eJ (w)), none, none, none, none, none, none, none, none, none, none, none, none, none, none, none, none, none]) (st' := [eR 98]) rfl (s_an rfl (by decide)) rfl ?_
  refine w_gf (np := 8) (v := eJ (v8)) rfl rfl k7 (by rw [f3]; rfl) ?_
  refine w_s (np := 10) (lv' := [some (eR 98), some (eJ (t)), none, some (eJ (u)), none, some (eJ (v)), none, some (eJ (w)), none, some (eJ (v8)), none, none, none, none, none, none, none, none, none, none, none, none, none, none, none]) (st' := []) rfl rfl rfl ?_
  refine w_s (np := 11) (lv' := [some (eR 98), some (eJ (t)), none, some (eJ (u)), none, some (eJ (v)), none, some (eJ (w)), none, some (eJ (v8)), none, none, none, none, none, none, none, none, none, none, none, none, none, none, none]) (st' := [eR 98]) rfl (s_an rfl (by decide)) rfl ?_
  refine w_gf (np := 14) (v := eJ (v11)) rfl rfl k7 (by rw [f4]; rfl) ?_
  refine w_s (np := 16) (lv' := [some (eR 98), some (eJ (t)), none, some (eJ (u)), none, some (eJ (v)), none, some (eJ (w)), none, some (eJ (v8)), none, some (eJ (v11)), none, none, none, none, none, none, none, none, none, none, none, none, none]) (st' := []) rfl rfl rfl ?_
  refine w_s (np := 17) (lv' := [some (eR 98), some (eJ (t)), none, some (eJ (u)), none, some (eJ (v)), none, some (eJ (w)), none, some (eJ (v8)), none, some (eJ (v11)), none, none, none, none, none, none, none, none, none, none, none, none, none]) (st' := [eR 98]) rfl (s_an rfl (by decide)) rfl ?_
  refine w_gf (np := 20) (v := eJ (v14)) rfl rfl k7 (by rw [f5]; rfl) ?_
  refine w_s (np := 22) (lv' := [some (eR 98), some (eJ (t)), none, some (eJ (u)), none, some (eJ (v)), none, some (eJ (w)), none, some (eJ (v8)), none, some (eJ (v11)), none, some (eJ (v14)), none, none, none, none, none, none, none, none, none, none, none]) (st' := []) rfl rfl rfl ?_
  refine w_s (np := 23) (lv' := [some (eR 98), some (eJ (t)), none, some (eJ (u)), none, some (eJ (v)), none, some (eJ (w)), none, some (eJ (v8)), none, some (eJ (v11)), none, some (eJ (v14)), none, none, none, none, none, none, none, none, none, none, none]) (st' := [eR 98]) rfl (s_an rfl (by decide)) rfl ?_
  refine w_gf (np := 26) (v := eJ (v20)) rfl rfl k7 (by rw [f6]; rfl) ?_
  refine w_s (np := 28) (lv' := [some (eR 98), some (eJ (t)), none, some (eJ (u)), none, some (eJ (v)), none, some (eJ (w)), none, some (eJ (v8)), none, some (eJ (v11)), none, some (eJ (v14)), none, some (eJ (v20)), none, none, none, none, none, none, none, none, none]) (st' := []) rfl rfl rfl ?_
  refine w_s (np := 29) (lv' := [some (eR 98), some (eJ (t)), none, some (eJ (u)), none, some (eJ (v)), none, some (eJ (w)), none, some (eJ (v8)), none, some (eJ (v11)), none, some (eJ (v14)), none, some (eJ (v20)), none, none, none, none, none, none, none, none, none]) (st' := [eR 98]) rfl (s_an rfl (by decide)) rfl ?_
  refine w_s (np := 30) (lv' := [some (eR 98), some (eJ (t)), none, some (eJ (u)), none, some (eJ (v)), none, some (eJ (w)), none, some (eJ (v8)), none, some (eJ (v11)), none, some (eJ (v14)), none, some (eJ (v20)), none, none, none, none, none, none, none, none, none]) (st' := [eJ (t), eR 98]) rfl rfl rfl ?_
  refine w_s (np := 31) (lv' := [some (eR 98), some (eJ (t)), none, some (eJ (u)), none, some (eJ (v)), none, some (eJ (w)), none, some (eJ (v8)), none, some (eJ (v11)), none, some (eJ (v14)), none, some (eJ (v20)), none, none, none, none, none, none, none, none, none]) (st' := [eJ (u), eJ (t), eR 98]) rfl rfl rfl ?_
  refine w_s (np := 33) (lv' := [some (eR 98), some (eJ (t)), none, some (eJ (u)), none, some (eJ (v)), none, some (eJ (w)), none, some (eJ (v8)), none, some (eJ (v11)), none, some (eJ (v14)), none, some (eJ (v20)), none, none, none, none, none, none, none, none, none]) (st' := [eJ (v), eJ (u), eJ (t), eR 98]) rfl rfl rfl ?_
  refine w_s (np := 35) (lv' := [some (eR 98), some (eJ (t)), none, some (eJ (u)), none, some (eJ (v)), none, some (eJ (w)), none, some (eJ (v8)), none, some (eJ (v11)), none, some (eJ (v14)), none, some (eJ (v20)), none, none, none, none, none, none, none, none, none]) (st' := [eJ (w), eJ (v), eJ (u), eJ (t), eR 98]) rfl rfl rfl ?_
  refine w_cv (np := 38) (as := [eJ (t), eJ (u), eJ (v), eJ (w)]) (lv' := [some (eR 98), some (eJ (t)), none, some (eJ (u)), none, some (eJ (v)), none, some (eJ (w)), none]) (rest := []) rfl rfl rfl (Nat.ble_eq.mp rfl) rfl rfl rfl k7 rfl ?_
  refine t219 k7 ?_
  intro m23 s24 f25 f26 f27 f28
  have k29 := tS_kd s24 k7
  have s30 := tS_tr s2 s24
  show ex_fine fg rc rs (d + 2, (223, 38, [some (eR 98), some (eJ (t)), none, some (eJ (u)), none, some (eJ (v)), none, some (eJ (w)), none, some (eJ (v8)), none, some (eJ (v11)), none, some (eJ (v14)), none, some (eJ (v20)), none, none, none, none, none, none, none, none, none], []), f :: F, m23)
  refine w_s (np := 40) (lv' := [some (eR 98), some (eJ (t)), none, some (eJ (u)), none, some (eJ (v)), none, some (eJ (w)), none, some (eJ (v8)), none, some (eJ (v11)), none, some (eJ (v14)), none, some (eJ (v20)), none, none, none, none, none, none, none, none, none]) (st' := [eJ (v8)]) rfl rfl rfl ?_
  refine w_s (np := 41) (lv' := [some (eR 98), some (eJ (t)), none, some (eJ (u)), none, some (eJ (v)), none, some (eJ (w)), none, some (eJ (v8)), none, some (eJ (v11)), none, some (eJ (v14)), none, some (eJ (v20)), none, none, none, none, none, none, none, none, none]) (st' := [eR 98, eJ (v8)]) rfl (s_an rfl (by decide)) rfl ?_
  refine w_gf (np := 44) (v := eJ (t)) rfl rfl k29 (by rw [f25]; rfl) ?_
  obtain ⟨v31, e32⟩ : ∃ v : Int, v = (v8) * (t) := ⟨_, rfl⟩
  have b33 : -1600000 ≤ v31 ∧ v31 ≤ 1600000 := by
    have hm := i_mulb (a := v8) (b := t) (A := 16) (B := 100000) (by omega) (by omega)
    rw [e32]
    omega
  refine w_s (np := 45) (lv' := [some (eR 98), some (eJ (t)), none, some (eJ (u)), none, some (eJ (v)), none, some (eJ (w)), none, some (eJ (v8)), none, some (eJ (v11)), none, some (eJ (v14)), none, some (eJ (v20)), none, none, none, none, none, none, none, none, none]) (st' := [eJ (v31)]) rfl (b_lmul (by rw [← e32]; exact ev_W_in (by omega) (by omega))) rfl ?_
  refine w_s (np := 47) (lv' := [some (eR 98), some (eJ (t)), none, some (eJ (u)), none, some (eJ (v)), none, some (eJ (w)), none, some (eJ (v8)), none, some (eJ (v11)), none, some (eJ (v14)), none, some (eJ (v20)), none, some (eJ (v31)), none, none, none, none, none, none, none]) (st' := []) rfl rfl rfl ?_
  refine w_s (np := 49) (lv' := [some (eR 98), some (eJ (t)), none, some (eJ (u)), none, some (eJ (v)), none, some (eJ (w)), none, some (eJ (v8)), none, some (eJ (v11)), none, some (eJ (v14)), none, some (eJ (v20)), none, some (eJ (v31)), none, none, none, none, none, none, none]) (st' := [eJ (v8)]) rfl rfl rfl ?_
  refine w_s (np := 50) (lv' := [some (eR 98), some (eJ (t)), none, some (eJ (u)), none, some (eJ (v)), none, some (eJ (w)), none, some (eJ (v8)), none, some (eJ (v11)), none, some (eJ (v14)), none, some (eJ (v20)), none, some (eJ (v31)), none, none, none, none, none, none, none]) (st' := [eR 98, eJ (v8)]) rfl (s_an rfl (by decide)) rfl ?_
  refine w_gf (np := 53) (v := eJ (u)) rfl rfl k29 (by rw [f26]; rfl) ?_
  obtain ⟨v34, e35⟩ : ∃ v : Int, v = (v8) * (u) := ⟨_, rfl⟩
  have b36 : -1600000 ≤ v34 ∧ v34 ≤ 1600000 := by
    have hm := i_mulb (a := v8) (b := u) (A := 16) (B := 100000) (by omega) (by omega)
    rw [e35]
    omega
  refine w_s (np := 54) (lv' := [some (eR 98), some (eJ (t)), none, some (eJ (u)), none, some (eJ (v)), none, some (eJ (w)), none, some (eJ (v8)), none, some (eJ (v11)), none, some (eJ (v14)), none, some (eJ (v20)), none, some (eJ (v31)), none, none, none, none, none, none, none]) (st' := [eJ (v34)]) rfl (b_lmul (by rw [← e35]; exact ev_W_in (by omega) (by omega))) rfl ?_
  refine w_s (np := 56) (lv' := [some (eR 98), some (eJ (t)), none, some (eJ (u)), none, some (eJ (v)), none, some (eJ (w)), none, some (eJ (v8)), none, some (eJ (v11)), none, some (eJ (v14)), none, some (eJ (v20)), none, some (eJ (v31)), none, some (eJ (v34)), none, none, none, none, none]) (st' := []) rfl rfl rfl ?_
  refine w_s (np := 58) (lv' := [some (eR 98), some (eJ (t)), none, some (eJ (u)), none, some (eJ (v)), none, some (eJ (w)), none, some (eJ (v8)), none, some (eJ (v11)), none, some (eJ (v14)), none, some (eJ (v20)), none, some (eJ (v31)), none, some (eJ (v34)), none, none, none, none, none]) (st' := [eJ (v8)]) rfl rfl rfl ?_
  refine w_s (np := 59) (lv' := [some (eR 98), some (eJ (t)), none, some (eJ (u)), none, some (eJ (v)), none, some (eJ (w)), none, some (eJ (v8)), none, some (eJ (v11)), none, some (eJ (v14)), none, some (eJ (v20)), none, some (eJ (v31)), none, some (eJ (v34)), none, none, none, none, none]) (st' := [eR 98, eJ (v8)]) rfl (s_an rfl (by decide)) rfl ?_
  refine w_gf (np := 62) (v := eJ (v)) rfl rfl k29 (by rw [f27]; rfl) ?_
  obtain ⟨v37, e38⟩ : ∃ v : Int, v = (v8) * (v) := ⟨_, rfl⟩
  have b39 : -1600000 ≤ v37 ∧ v37 ≤ 1600000 := by
    have hm := i_mulb (a := v8) (b := v) (A := 16) (B := 100000) (by omega) (by omega)
    rw [e38]
    omega
  refine w_s (np := 63) (lv' := [some (eR 98), some (eJ (t)), none, some (eJ (u)), none, some (eJ (v)), none, some (eJ (w)), none, some (eJ (v8)), none, some (eJ (v11)), none, some (eJ (v14)), none, some (eJ (v20)), none, some (eJ (v31)), none, some (eJ (v34)), none, none, none, none, none]) (st' := [eJ (v37)]) rfl (b_lmul (by rw [← e38]; exact ev_W_in (by omega) (by omega))) rfl ?_
  refine w_s (np := 65) (lv' := [some (eR 98), some (eJ (t)), none, some (eJ (u)), none, some (eJ (v)), none, some (eJ (w)), none, some (eJ (v8)), none, some (eJ (v11)), none, some (eJ (v14)), none, some (eJ (v20)), none, some (eJ (v31)), none, some (eJ (v34)), none, some (eJ (v37)), none, none, none]) (st' := []) rfl rfl rfl ?_
  refine w_s (np := 67) (lv' := [some (eR 98), some (eJ (t)), none, some (eJ (u)), none, some (eJ (v)), none, some (eJ (w)), none, some (eJ (v8)), none, some (eJ (v11)), none, some (eJ (v14)), none, some (eJ (v20)), none, some (eJ (v31)), none, some (eJ (v34)), none, some (eJ (v37)), none, none, none]) (st' := [eJ (v8)]) rfl rfl rfl ?_
  refine w_s (np := 68) (lv' := [some (eR 98), some (eJ (t)), none, some (eJ (u)), none, some (eJ (v)), none, some (eJ (w)), none, some (eJ (v8)), none, some (eJ (v11)), none, some (eJ (v14)), none, some (eJ (v20)), none, some (eJ (v31)), none, some (eJ (v34)), none, some (eJ (v37)), none, none, none]) (st' := [eR 98, eJ (v8)]) rfl (s_an rfl (by decide)) rfl ?_
  refine w_gf (np := 71) (v := eJ (w)) rfl rfl k29 (by rw [f28]; rfl) ?_
  obtain ⟨v40, e41⟩ : ∃ v : Int, v = (v8) * (w) := ⟨_, rfl⟩
  have b42 : -1600000 ≤ v40 ∧ v40 ≤ 1600000 := by
    have hm := i_mulb (a := v8) (b := w) (A := 16) (B := 100000) (by omega) (by omega)
    rw [e41]
    omega
  refine w_s (np := 72) (lv' := [some (eR 98), some (eJ (t)), none, some (eJ (u)), none, some (eJ (v)), none, some (eJ (w)), none, some (eJ (v8)), none, some (eJ (v11)), none, some (eJ (v14)), none, some (eJ (v20)), none, some (eJ (v31)), none, some (eJ (v34)), none, some (eJ (v37)), none, none, none]) (st' := [eJ (v40)]) rfl (b_lmul (by rw [← e41]; exact ev_W_in (by omega) (by omega))) rfl ?_
  refine w_s (np := 74) (lv' := [some (eR 98), some (eJ (t)), none, some (eJ (u)), none, some (eJ (v)), none, some (eJ (w)), none, some (eJ (v8)), none, some (eJ (v11)), none, some (eJ (v14)), none, some (eJ (v20)), none, some (eJ (v31)), none, some (eJ (v34)), none, some (eJ (v37)), none, some (eJ (v40)), none]) (st' := []) rfl rfl rfl ?_
  refine w_s (np := 75) (lv' := [some (eR 98), some (eJ (t)), none, some (eJ (u)), none, some (eJ (v)), none, some (eJ (w)), none, some (eJ (v8)), none, some (eJ (v11)), none, some (eJ (v14)), none, some (eJ (v20)), none, some (eJ (v31)), none, some (eJ (v34)), none, some (eJ (v37)), none, some (eJ (v40)), none]) (st' := [eR 98]) rfl (s_an rfl (by decide)) rfl ?_
  refine w_cv (np := 78) (as := []) (lv' := [some (eR 98)]) (rest := []) rfl rfl rfl (Nat.ble_eq.mp rfl) rfl rfl rfl k29 rfl ?_
  refine t220 k29 f25 f26 f27 f28 (show (-1000000 : Int) ≤ t ∧ (t : Int) ≤ 1000000 by omega) (show (-1000000 : Int) ≤ u ∧ (u : Int) ≤ 1000000 by omega) (show (-1000000 : Int) ≤ v ∧ (v : Int) ≤ 1000000 by omega) (show (-1000000 : Int) ≤ w ∧ (w : Int) ≤ 1000000 by omega) ?_
  intro m43 s44 f45 f46 f47 f48
  have k49 := tS_kd s44 k29
  have s50 := tS_tr s30 s44
  obtain ⟨v51, e52⟩ : ∃ v : Int, v = (0) - (w) := ⟨_, rfl⟩
  have b53 : -100000 ≤ v51 ∧ v51 ≤ 100000 := by omega
  rw [← e52] at f45
  obtain ⟨v54, e55⟩ : ∃ v : Int, v = (t) + (w) := ⟨_, rfl⟩
  have b56 : -200000 ≤ v54 ∧ v54 ≤ 200000 := by omega
  rw [← e55] at f46
  obtain ⟨v57, e58⟩ : ∃ v : Int, v = (u) - (w) := ⟨_, rfl⟩
  have b59 : -200000 ≤ v57 ∧ v57 ≤ 200000 := by omega
  rw [← e58] at f47
  obtain ⟨v60, e61⟩ : ∃ v : Int, v = (v) + (w) := ⟨_, rfl⟩
  have b62 : -200000 ≤ v60 ∧ v60 ≤ 200000 := by omega
  rw [← e61] at f48
  show ex_fine fg rc rs (d + 2, (223, 78, [some (eR 98), some (eJ (t)), none, some (eJ (u)), none, some (eJ (v)), none, some (eJ (w)), none, some (eJ (v8)), none, some (eJ (v11)), none, some (eJ (v14)), none, some (eJ (v20)), none, some (eJ (v31)), none, some (eJ (v34)), none, some (eJ (v37)), none, some (eJ (v40)), none], []), f :: F, m43)
  refine w_s (np := 80) (lv' := [some (eR 98), some (eJ (t)), none, some (eJ (u)), none, some (eJ (v)), none, some (eJ (w)), none, some (eJ (v8)), none, some (eJ (v11)), none, some (eJ (v14)), none, some (eJ (v20)), none, some (eJ (v31)), none, some (eJ (v34)), none, some (eJ (v37)), none, some (eJ (v40)), none]) (st' := [eJ (v31)]) rfl rfl rfl ?_
  refine w_s (np := 82) (lv' := [some (eR 98), some (eJ (t)), none, some (eJ (u)), none, some (eJ (v)), none, some (eJ (w)), none, some (eJ (v8)), none, some (eJ (v11)), none, some (eJ (v14)), none, some (eJ (v20)), none, some (eJ (v31)), none, some (eJ (v34)), none, some (eJ (v37)), none, some (eJ (v40)), none]) (st' := [eJ (v11), eJ (v31)]) rfl rfl rfl ?_
  refine w_s (np := 83) (lv' := [some (eR 98), some (eJ (t)), none, some (eJ (u)), none, some (eJ (v)), none, some (eJ (w)), none, some (eJ (v8)), none, some (eJ (v11)), none, some (eJ (v14)), none, some (eJ (v20)), none, some (eJ (v31)), none, some (eJ (v34)), none, some (eJ (v37)), none, some (eJ (v40)), none]) (st' := [eR 98, eJ (v11), eJ (v31)]) rfl (s_an rfl (by decide)) rfl ?_
  refine w_gf (np := 86) (v := eJ (v51)) rfl rfl k49 (by rw [f45]; rfl) ?_
  obtain ⟨v63, e64⟩ : ∃ v : Int, v = (v11) * (v51) := ⟨_, rfl⟩
  have b65 : -800000 ≤ v63 ∧ v63 ≤ 800000 := by
    have hm := i_mulb (a := v11) (b := v51) (A := 8) (B := 100000) (by omega) (by omega)
    rw [e64]
    omega
  refine w_s (np := 87) (lv' := [some (eR 98), some (eJ (t)), none, some (eJ (u)), none, some (eJ (v)), none, some (eJ (w)), none, some (eJ (v8)), none, some (eJ (v11)), none, some (eJ (v14)), none, some (eJ (v20)), none, some (eJ (v31)), none, some (eJ (v34)), none, some (eJ (v37)), none, some (eJ (v40)), none]) (st' := [eJ (v63), eJ (v31)]) rfl (b_lmul (by rw [← e64]; exact ev_W_in (by omega) (by omega))) rfl ?_
  obtain ⟨v66, e67⟩ : ∃ v : Int, v = (v31) + (v63) := ⟨_, rfl⟩
  have b68 : -2400000 ≤ v66 ∧ v66 ≤ 2400000 := by omega
  refine w_s (np := 88) (lv' := [some (eR 98), some (eJ (t)), none, some (eJ (u)), none, some (eJ (v)), none, some (eJ (w)), none, some (eJ (v8)), none, some (eJ (v11)), none, some (eJ (v14)), none, some (eJ (v20)), none, some (eJ (v31)), none, some (eJ (v34)), none, some (eJ (v37)), none, some (eJ (v40)), none]) (st' := [eJ (v66)]) rfl (b_ladd (by rw [← e67]; exact ev_W_in (by omega) (by omega))) rfl ?_
  refine w_s (np := 90) (lv' := [some (eR 98), some (eJ (t)), none, some (eJ (u)), none, some (eJ (v)), none, some (eJ (w)), none, some (eJ (v8)), none, some (eJ (v11)), none, some (eJ (v14)), none, some (eJ (v20)), none, some (eJ (v66)), none, some (eJ (v34)), none, some (eJ (v37)), none, some (eJ (v40)), none]) (st' := []) rfl rfl rfl ?_
  refine w_s (np := 92) (lv' := [some (eR 98), some (eJ (t)), none, some (eJ (u)), none, some (eJ (v)), none, some (eJ (w)), none, some (eJ (v8)), none, some (eJ (v11)), none, some (eJ (v14)), none, some (eJ (v20)), none, some (eJ (v66)), none, some (eJ (v34)), none, some (eJ (v37)), none, some (eJ (v40)), none]) (st' := [eJ (v34)]) rfl rfl rfl ?_
  refine w_s (np := 94) (lv' := [some (eR 98), some (eJ (t)), none, some (eJ (u)), none, some (eJ (v)), none, some (eJ (w)), none, some (eJ (v8)), none, some (eJ (v11)), none, some (eJ (v14)), none, some (eJ (v20)), none, some (eJ (v66)), none, some (eJ (v34)), none, some (eJ (v37)), none, some (eJ (v40)), none]) (st' := [eJ (v11), eJ (v34)]) rfl rfl rfl ?_
  refine w_s (np := 95) (lv' := [some (eR 98), some (eJ (t)), none, some (eJ (u)), none, some (eJ (v)), none, some (eJ (w)), none, some (eJ (v8)), none, some (eJ (v11)), none, some (eJ (v14)), none, some (eJ (v20)), none, some (eJ (v66)), none, some (eJ (v34)), none, some (eJ (v37)), none, some (eJ (v40)), none]) (st' := [eR 98, eJ (v11), eJ (v34)]) rfl (s_an rfl (by decide)) rfl ?_
  refine w_gf (np := 98) (v := eJ (v54)) rfl rfl k49 (by rw [f46]; rfl) ?_
  obtain ⟨v69, e70⟩ : ∃ v : Int, v = (v11) * (v54) := ⟨_, rfl⟩
  have b71 : -1600000 ≤ v69 ∧ v69 ≤ 1600000 := by
    have hm := i_mulb (a := v11) (b := v54) (A := 8) (B := 200000) (by omega) (by omega)
    rw [e70]
    omega
  refine w_s (np := 99) (lv' := [some (eR 98), some (eJ (t)), none, some (eJ (u)), none, some (eJ (v)), none, some (eJ (w)), none, some (eJ (v8)), none, some (eJ (v11)), none, some (eJ (v14)), none, some (eJ (v20)), none, some (eJ (v66)), none, some (eJ (v34)), none, some (eJ (v37)), none, some (eJ (v40)), none]) (st' := [eJ (v69), eJ (v34)]) rfl (b_lmul (by rw [← e70]; exact ev_W_in (by omega) (by omega))) rfl ?_
  obtain ⟨v72, e73⟩ : ∃ v : Int, v = (v34) + (v69) := ⟨_, rfl⟩
  have b74 : -3200000 ≤ v72 ∧ v72 ≤ 3200000 := by omega
  refine w_s (np := 100) (lv' := [some (eR 98), some (eJ (t)), none, some (eJ (u)), none, some (eJ (v)), none, some (eJ (w)), none, some (eJ (v8)), none, some (eJ (v11)), none, some (eJ (v14)), none, some (eJ (v20)), none, some (eJ (v66)), none, some (eJ (v34)), none, some (eJ (v37)), none, some (eJ (v40)), none]) (st' := [eJ (v72)]) rfl (b_ladd (by rw [← e73]; exact ev_W_in (by omega) (by omega))) rfl ?_
  refine w_s (np := 102) (lv' := [some (eR 98), some (eJ (t)), none, some (eJ (u)), none, some (eJ (v)), none, some (eJ (w)), none, some (eJ (v8)), none, some (eJ (v11)), none, some (eJ (v14)), none, some (eJ (v20)), none, some (eJ (v66)), none, some (eJ (v72)), none, some (eJ (v37)), none, some (eJ (v40)), none]) (st' := []) rfl rfl rfl ?_
  refine w_s (np := 104) (lv' := [some (eR 98), some (eJ (t)), none, some (eJ (u)), none, some (eJ (v)), none, some (eJ (w)), none, some (eJ (v8)), none, some (eJ (v11)), none, some (eJ (v14)), none, some (eJ (v20)), none, some (eJ (v66)), none, some (eJ (v72)), none, some (eJ (v37)), none, some (eJ (v40)), none]) (st' := [eJ (v37)]) rfl rfl rfl ?_
  refine w_s (np := 106) (lv' := [some (eR 98), some (eJ (t)), none, some (eJ (u)), none, some (eJ (v)), none, some (eJ (w)), none, some (eJ (v8)), none, some (eJ (v11)), none, some (eJ (v14)), none, some (eJ (v20)), none, some (eJ (v66)), none, some (eJ (v72)), none, some (eJ (v37)), none, some (eJ (v40)), none]) (st' := [eJ (v11), eJ (v37)]) rfl rfl rfl ?_
  refine w_s (np := 107) (lv' := [some (eR 98), some (eJ (t)), none, some (eJ (u)), none, some (eJ (v)), none, some (eJ (w)), none, some (eJ (v8)), none, some (eJ (v11)), none, some (eJ (v14)), none, some (eJ (v20)), none, some (eJ (v66)), none, some (eJ (v72)), none, some (eJ (v37)), none, some (eJ (v40)), none]) (st' := [eR 98, eJ (v11), eJ (v37)]) rfl (s_an rfl (by decide)) rfl ?_
  refine w_gf (np := 110) (v := eJ (v57)) rfl rfl k49 (by rw [f47]; rfl) ?_
  obtain ⟨v75, e76⟩ : ∃ v : Int, v = (v11) * (v57) := ⟨_, rfl⟩
  have b77 : -1600000 ≤ v75 ∧ v75 ≤ 1600000 := by
    have hm := i_mulb (a := v11) (b := v57) (A := 8) (B := 200000) (by omega) (by omega)
    rw [e76]
    omega
  refine w_s (np := 111) (lv' := [some (eR 98), some (eJ (t)), none, some (eJ (u)), none, some (eJ (v)), none, some (eJ (w)), none, some (eJ (v8)), none, some (eJ (v11)), none, some (eJ (v14)), none, some (eJ (v20)), none, some (eJ (v66)), none, some (eJ (v72)), none, some (eJ (v37)), none, some (eJ (v40)), none]) (st' := [eJ (v75), eJ (v37)]) rfl (b_lmul (by rw [← e76]; exact ev_W_in (by omega) (by omega))) rfl ?_
  obtain ⟨v78, e79⟩ : ∃ v : Int, v = (v37) + (v75) := ⟨_, rfl⟩
  have b80 : -3200000 ≤ v78 ∧ v78 ≤ 3200000 := by omega
  refine w_s (np := 112) (lv' := [some (eR 98), some (eJ (t)), none, some (eJ (u)), none, some (eJ (v)), none, some (eJ (w)), none, some (eJ (v8)), none, some (eJ (v11)), none, some (eJ (v14)), none, some (eJ (v20)), none, some (eJ (v66)), none, some (eJ (v72)), none, some (eJ (v37)), none, some (eJ (v40)), none]) (st' := [eJ (v78)]) rfl (b_ladd (by rw [← e79]; exact ev_W_in (by omega) (by omega))) rfl ?_
  refine w_s (np := 114) (lv' := [some (eR 98), some (eJ (t)), none, some (eJ (u)), none, some (eJ (v)), none, some (eJ (w)), none, some (eJ (v8)), none, some (eJ (v11)), none, some (eJ (v14)), none, some (eJ (v20)), none, some (eJ (v66)), none, some (eJ (v72)), none, some (eJ (v78)), none, some (eJ (v40)), none]) (st' := []) rfl rfl rfl ?_
  refine w_s (np := 116) (lv' := [some (eR 98), some (eJ (t)), none, some (eJ (u)), none, some (eJ (v)), none, some (eJ (w)), none, some (eJ (v8)), none, some (eJ (v11)), none, some (eJ (v14)), none, some (eJ (v20)), none, some (eJ (v66)), none, some (eJ (v72)), none, some (eJ (v78)), none, some (eJ (v40)), none]) (st' := [eJ (v40)]) rfl rfl rfl ?_
  refine w_s (np := 118) (lv' := [some (eR 98), some (eJ (t)), none, some (eJ (u)), none, some (eJ (v)), none, some (eJ (w)), none, some (eJ (v8)), none, some (eJ (v11)), none, some (eJ (v14)), none, some (eJ (v20)), none, some (eJ (v66)), none, some (eJ (v72)), none, some (eJ (v78)), none, some (eJ (v40)), none]) (st' := [eJ (v11), eJ (v40)]) rfl rfl rfl ?_
  refine w_s (np := 119) (lv' := [some (eR 98), some (eJ (t)), none, some (eJ (u)), none, some (eJ (v)), none, some (eJ (w)), none, some (eJ (v8)), none, some (eJ (v11)), none, some (eJ (v14)), none, some (eJ (v20)), none, some (eJ (v66)), none, some (eJ (v72)), none, some (eJ (v78)), none, some (eJ (v40)), none]) (st' := [eR 98, eJ (v11), eJ (v40)]) rfl (s_an rfl (by decide)) rfl ?_
  refine w_gf (np := 122) (v := eJ (v60)) rfl rfl k49 (by rw [f48]; rfl) ?_
  obtain ⟨v81, e82⟩ : ∃ v : Int, v = (v11) * (v60) := ⟨_, rfl⟩
  have b83 : -1600000 ≤ v81 ∧ v81 ≤ 1600000 := by
    have hm := i_mulb (a := v11) (b := v60) (A := 8) (B := 200000) (by omega) (by omega)
    rw [e82]
    omega
  refine w_s (np := 123) (lv' := [some (eR 98), some (eJ (t)), none, some (eJ (u)), none, some (eJ (v)), none, some (eJ (w)), none, some (eJ (v8)), none, some (eJ (v11)), none, some (eJ (v14)), none, some (eJ (v20)), none, some (eJ (v66)), none, some (eJ (v72)), none, some (eJ (v78)), none, some (eJ (v40)), none]) (st' := [eJ (v81), eJ (v40)]) rfl (b_lmul (by rw [← e82]; exact ev_W_in (by omega) (by omega))) rfl ?_
  obtain ⟨v84, e85⟩ : ∃ v : Int, v = (v40) + (v81) := ⟨_, rfl⟩
  have b86 : -3200000 ≤ v84 ∧ v84 ≤ 3200000 := by omega
  refine w_s (np := 124) (lv' := [some (eR 98), some (eJ (t)), none, some (eJ (u)), none, some (eJ (v)), none, some (eJ (w)), none, some (eJ (v8)), none, some (eJ (v11)), none, some (eJ (v14)), none, some (eJ (v20)), none, some (eJ (v66)), none, some (eJ (v72)), none, some (eJ (v78)), none, some (eJ (v40)), none]) (st' := [eJ (v84)]) rfl (b_ladd (by rw [← e85]; exact ev_W_in (by omega) (by omega))) rfl ?_
  refine w_s (np := 126) (lv' := [some (eR 98), some (eJ (t)), none, some (eJ (u)), none, some (eJ (v)), none, some (eJ (w)), none, some (eJ (v8)), none, some (eJ (v11)), none, some (eJ (v14)), none, some (eJ (v20)), none, some (eJ (v66)), none, some (eJ (v72)), none, some (eJ (v78)), none, some (eJ (v84)), none]) (st' := []) rfl rfl rfl ?_
  refine w_s (np := 127) (lv' := [some (eR 98), some (eJ (t)), none, some (eJ (u)), none, some (eJ (v)), none, some (eJ (w)), none, some (eJ (v8)), none, some (eJ (v11)), none, some (eJ (v14)), none, some (eJ (v20)), none, some (eJ (v66)), none, some (eJ (v72)), none, some (eJ (v78)), none, some (eJ (v84)), none]) (st' := [eR 98]) rfl (s_an rfl (by decide)) rfl ?_
  refine w_cv (np := 130) (as := []) (lv' := [some (eR 98)]) (rest := []) rfl rfl rfl (Nat.ble_eq.mp rfl) rfl rfl rfl k49 rfl ?_
  refine t220 k49 f45 f46 f47 f48 (show (-1000000 : Int) ≤ v51 ∧ (v51 : Int) ≤ 1000000 by omega) (show (-1000000 : Int) ≤ v54 ∧ (v54 : Int) ≤ 1000000 by omega) (show (-1000000 : Int) ≤ v57 ∧ (v57 : Int) ≤ 1000000 by omega) (show (-1000000 : Int) ≤ v60 ∧ (v60 : Int) ≤ 1000000 by omega) ?_
  intro m87 s88 f89 f90 f91 f92
  have k93 := tS_kd s88 k49
  have s94 := tS_tr s50 s88
  obtain ⟨v95, e96⟩ : ∃ v : Int, v = (0) - (v60) := ⟨_, rfl⟩
  have b97 : -200000 ≤ v95 ∧ v95 ≤ 200000 := by omega
  rw [← e96] at f89
  obtain ⟨v98, e99⟩ : ∃ v : Int, v = (v51) + (v60) := ⟨_, rfl⟩
  have b100 : -300000 ≤ v98 ∧ v98 ≤ 300000 := by omega
  rw [← e99] at f90
  obtain ⟨v101, e102⟩ : ∃ v : Int, v = (v54) - (v60) := ⟨_, rfl⟩
  have b103 : -400000 ≤ v101 ∧ v101 ≤ 400000 := by omega
  rw [← e102] at f91
  obtain ⟨v104, e105⟩ : ∃ v : Int, v = (v57) + (v60) := ⟨_, rfl⟩
  have b106 : -400000 ≤ v104 ∧ v104 ≤ 400000 := by omega
  rw [← e105] at f92
  show ex_fine fg rc rs (d + 2, (223, 130, [some (eR 98), some (eJ (t)), none, some (eJ (u)), none, some (eJ (v)), none, some (eJ (w)), none, some (eJ (v8)), none, some (eJ (v11)), none, some (eJ (v14)), none, some (eJ (v20)), none, some (eJ (v66)), none, some (eJ (v72)), none, some (eJ (v78)), none, some (eJ (v84)), none], []), f :: F, m87)
  refine w_s (np := 132) (lv' := [some (eR 98), some (eJ (t)), none, some (eJ (u)), none, some (eJ (v)), none, some (eJ (w)), none, some (eJ (v8)), none, some (eJ (v11)), none, some (eJ (v14)), none, some (eJ (v20)), none, some (eJ (v66)), none, some (eJ (v72)), none, some (eJ (v78)), none, some (eJ (v84)), none]) (st' := [eJ (v66)]) rfl rfl rfl ?_
  refine w_s (np := 134) (lv' := [some (eR 98), some (eJ (t)), none, some (eJ (u)), none, some (eJ (v)), none, some (eJ (w)), none, some (eJ (v8)), none, some (eJ (v11)), none, some (eJ (v14)), none, some (eJ (v20)), none, some (eJ (v66)), none, some (eJ (v72)), none, some (eJ (v78)), none, some (eJ (v84)), none]) (st' := [eJ (v14), eJ (v66)]) rfl rfl rfl ?_
  refine w_s (np := 135) (lv' := [some (eR 98), some (eJ (t)), none, some (eJ (u)), none, some (eJ (v)), none, some (eJ (w)), none, some (eJ (v8)), none, some (eJ (v11)), none, some (eJ (v14)), none, some (eJ (v20)), none, some (eJ (v66)), none, some (eJ (v72)), none, some (eJ (v78)), none, some (eJ (v84)), none]) (st' := [eR 98, eJ (v14), eJ (v66)]) rfl (s_an rfl (by decide)) rfl ?_
  refine w_gf (np := 138) (v := eJ (v95)) rfl rfl k93 (by rw [f89]; rfl) ?_
  obtain ⟨v107, e108⟩ : ∃ v : Int, v = (v14) * (v95) := ⟨_, rfl⟩
  have b109 : -3200000 ≤ v107 ∧ v107 ≤ 3200000 := by
    have hm := i_mulb (a := v14) (b := v95) (A := 16) (B := 200000) (by omega) (by omega)
    rw [e108]
    omega
  refine w_s (np := 139) (lv' := [some (eR 98), some (eJ (t)), none, some (eJ (u)), none, some (eJ (v)), none, some (eJ (w)), none, some (eJ (v8)), none, some (eJ (v11)), none, some (eJ (v14)), none, some (eJ (v20)), none, some (eJ (v66)), none, some (eJ (v72)), none, some (eJ (v78)), none, some (eJ (v84)), none]) (st' := [eJ (v107), eJ (v66)]) rfl (b_lmul (by rw [← e108]; exact ev_W_in (by omega) (by omega))) rfl ?_
  obtain ⟨v110, e111⟩ : ∃ v : Int, v = (v66) + (v107) := ⟨_, rfl⟩
  have b112 : -5600000 ≤ v110 ∧ v110 ≤ 5600000 := by omega
  refine w_s (np := 140) (lv' := [some (eR 98), some (eJ (t)), none, some (eJ (u)), none, some (eJ (v)), none, some (eJ (w)), none, some (eJ (v8)), none, some (eJ (v11)), none, some (eJ (v14)), none, some (eJ (v20)), none, some (eJ (v66)), none, some (eJ (v72)), none, some (eJ (v78)), none, some (eJ (v84)), none]) (st' := [eJ (v110)]) rfl (b_ladd (by rw [← e111]; exact ev_W_in (by omega) (by omega))) rfl ?_
  refine w_s (np := 142) (lv' := [some (eR 98), some (eJ (t)), none, some (eJ (u)), none, some (eJ (v)), none, some (eJ (w)), none, some (eJ (v8)), none, some (eJ (v11)), none, some (eJ (v14)), none, some (eJ (v20)), none, some (eJ (v110)), none, some (eJ (v72)), none, some (eJ (v78)), none, some (eJ (v84)), none]) (st' := []) rfl rfl rfl ?_
  refine w_s (np := 144) (lv' := [some (eR 98), some (eJ (t)), none, some (eJ (u)), none, some (eJ (v)), none, some (eJ (w)), none, some (eJ (v8)), none, some (eJ (v11)), none, some (eJ (v14)), none, some (eJ (v20)), none, some (eJ (v110)), none, some (eJ (v72)), none, some (eJ (v78)), none, some (eJ (v84)), none]) (st' := [eJ (v72)]) rfl rfl rfl ?_
  refine w_s (np := 146) (lv' := [some (eR 98), some (eJ (t)), none, some (eJ (u)), none, some (eJ (v)), none, some (eJ (w)), none, some (eJ (v8)), none, some (eJ (v11)), none, some (eJ (v14)), none, some (eJ (v20)), none, some (eJ (v110)), none, some (eJ (v72)), none, some (eJ (v78)), none, some (eJ (v84)), none]) (st' := [eJ (v14), eJ (v72)]) rfl rfl rfl ?_
  refine w_s (np := 147) (lv' := [some (eR 98), some (eJ (t)), none, some (eJ (u)), none, some (eJ (v)), none, some (eJ (w)), none, some (eJ (v8)), none, some (eJ (v11)), none, some (eJ (v14)), none, some (eJ (v20)), none, some (eJ (v110)), none, some (eJ (v72)), none, some (eJ (v78)), none, some (eJ (v84)), none]) (st' := [eR 98, eJ (v14), eJ (v72)]) rfl (s_an rfl (by decide)) rfl ?_
  refine w_gf (np := 150) (v := eJ (v98)) rfl rfl k93 (by rw [f90]; rfl) ?_
  obtain ⟨v113, e114⟩ : ∃ v : Int, v = (v14) * (v98) := ⟨_, rfl⟩
  have b115 : -4800000 ≤ v113 ∧ v113 ≤ 4800000 := by
    have hm := i_mulb (a := v14) (b := v98) (A := 16) (B := 300000) (by omega) (by omega)
    rw [e114]
    omega
  refine w_s (np := 151) (lv' := [some (eR 98), some (eJ (t)), none, some (eJ (u)), none, some (eJ (v)), none, some (eJ (w)), none, some (eJ (v8)), none, some (eJ (v11)), none, some (eJ (v14)), none, some (eJ (v20)), none, some (eJ (v110)), none, some (eJ (v72)), none, some (eJ (v78)), none, some (eJ (v84)), none]) (st' := [eJ (v113), eJ (v72)]) rfl (b_lmul (by rw [← e114]; exact ev_W_in (by omega) (by omega))) rfl ?_
  obtain ⟨v116, e117⟩ : ∃ v : Int, v = (v72) + (v113) := ⟨_, rfl⟩
  have b118 : -8000000 ≤ v116 ∧ v116 ≤ 8000000 := by omega
  refine w_s (np := 152) (lv' := [some (eR 98), some (eJ (t)), none, some (eJ (u)), none, some (eJ (v)), none, some (eJ (w)), none, some (eJ (v8)), none, some (eJ (v11)), none, some (eJ (v14)), none, some (eJ (v20)), none, some (eJ (v110)), none, some (eJ (v72)), none, some (eJ (v78)), none, some (eJ (v84)), none]) (st' := [eJ (v116)]) rfl (b_ladd (by rw [← e117]; exact ev_W_in (by omega) (by omega))) rfl ?_
  refine w_s (np := 154) (lv' := [some (eR 98), some (eJ (t)), none, some (eJ (u)), none, some (eJ (v)), none, some (eJ (w)), none, some (eJ (v8)), none, some (eJ (v11)), none, some (eJ (v14)), none, some (eJ (v20)), none, some (eJ (v110)), none, some (eJ (v116)), none, some (eJ (v78)), none, some (eJ (v84)), none]) (st' := []) rfl rfl rfl ?_
  refine w_s (np := 156) (lv' := [some (eR 98), some (eJ (t)), none, some (eJ (u)), none, some (eJ (v)), none, some (eJ (w)), none, some (eJ (v8)), none, some (eJ (v11)), none, some (eJ (v14)), none, some (eJ (v20)), none, some (eJ (v110)), none, some (eJ (v116)), none, some (eJ (v78)), none, some (eJ (v84)), none]) (st' := [eJ (v78)]) rfl rfl rfl ?_
  refine w_s (np := 158) (lv' := [some (eR 98), some (eJ (t)), none, some (eJ (u)), none, some (eJ (v)), none, some (eJ (w)), none, some (eJ (v8)), none, some (eJ (v11)), none, some (eJ (v14)), none, some (eJ (v20)), none, some (eJ (v110)), none, some (eJ (v116)), none, some (eJ (v78)), none, some (eJ (v84)), none]) (st' := [eJ (v14), eJ (v78)]) rfl rfl rfl ?_
  refine w_s (np := 159) (lv' := [some (eR 98), some (eJ (t)), none, some (eJ (u)), none, some (eJ (v)), none, some (eJ (w)), none, some (eJ (v8)), none, some (eJ (v11)), none, some (eJ (v14)), none, some (eJ (v20)), none, some (eJ (v110)), none, some (eJ (v116)), none, some (eJ (v78)), none, some (eJ (v84)), none]) (st' := [eR 98, eJ (v14), eJ (v78)]) rfl (s_an rfl (by decide)) rfl ?_
  refine w_gf (np := 162) (v := eJ (v101)) rfl rfl k93 (by rw [f91]; rfl) ?_
  obtain ⟨v119, e120⟩ : ∃ v : Int, v = (v14) * (v101) := ⟨_, rfl⟩
  have b121 : -6400000 ≤ v119 ∧ v119 ≤ 6400000 := by
    have hm := i_mulb (a := v14) (b := v101) (A := 16) (B := 400000) (by omega) (by omega)
    rw [e120]
    omega
  refine w_s (np := 163) (lv' := [some (eR 98), some (eJ (t)), none, some (eJ (u)), none, some (eJ (v)), none, some (eJ (w)), none, some (eJ (v8)), none, some (eJ (v11)), none, some (eJ (v14)), none, some (eJ (v20)), none, some (eJ (v110)), none, some (eJ (v116)), none, some (eJ (v78)), none, some (eJ (v84)), none]) (st' := [eJ (v119), eJ (v78)]) rfl (b_lmul (by rw [← e120]; exact ev_W_in (by omega) (by omega))) rfl ?_
  obtain ⟨v122, e123⟩ : ∃ v : Int, v = (v78) + (v119) := ⟨_, rfl⟩
  have b124 : -9600000 ≤ v122 ∧ v122 ≤ 9600000 := by omega
  refine w_s (np := 164) (lv' := [some (eR 98), some (eJ (t)), none, some (eJ (u)), none, some (eJ (v)), none, some (eJ (w)), none, some (eJ (v8)), none, some (eJ (v11)), none, some (eJ (v14)), none, some (eJ (v20)), none, some (eJ (v110)), none, some (eJ (v116)), none, some (eJ (v78)), none, some (eJ (v84)), none]) (st' := [eJ (v122)]) rfl (b_ladd (by rw [← e123]; exact ev_W_in (by omega) (by omega))) rfl ?_
  refine w_s (np := 166) (lv' := [some (eR 98), some (eJ (t)), none, some (eJ (u)), none, some (eJ (v)), none, some (eJ (w)), none, some (eJ (v8)), none, some (eJ (v11)), none, some (eJ (v14)), none, some (eJ (v20)), none, some (eJ (v110)), none, some (eJ (v116)), none, some (eJ (v122)), none, some (eJ (v84)), none]) (st' := []) rfl rfl rfl ?_
  refine w_s (np := 168) (lv' := [some (eR 98), some (eJ (t)), none, some (eJ (u)), none, some (eJ (v)), none, some (eJ (w)), none, some (eJ (v8)), none, some (eJ (v11)), none, some (eJ (v14)), none, some (eJ (v20)), none, some (eJ (v110)), none, some (eJ (v116)), none, some (eJ (v122)), none, some (eJ (v84)), none]) (st' := [eJ (v84)]) rfl rfl rfl ?_
  refine w_s (np := 170) (lv' := [some (eR 98), some (eJ (t)), none, some (eJ (u)), none, some (eJ (v)), none, some (eJ (w)), none, some (eJ (v8)), none, some (eJ (v11)), none, some (eJ (v14)), none, some (eJ (v20)), none, some (eJ (v110)), none, some (eJ (v116)), none, some (eJ (v122)), none, some (eJ (v84)), none]) (st' := [eJ (v14), eJ (v84)]) rfl rfl rfl ?_
  refine w_s (np := 171) (lv' := [some (eR 98), some (eJ (t)), none, some (eJ (u)), none, some (eJ (v)), none, some (eJ (w)), none, some (eJ (v8)), none, some (eJ (v11)), none, some (eJ (v14)), none, some (eJ (v20)), none, some (eJ (v110)), none, some (eJ (v116)), none, some (eJ (v122)), none, some (eJ (v84)), none]) (st' := [eR 98, eJ (v14), eJ (v84)]) rfl (s_an rfl (by decide)) rfl ?_
  refine w_gf (np := 174) (v := eJ (v104)) rfl rfl k93 (by rw [f92]; rfl) ?_
  obtain ⟨v125, e126⟩ : ∃ v : Int, v = (v14) * (v104) := ⟨_, rfl⟩
  have b127 : -6400000 ≤ v125 ∧ v125 ≤ 6400000 := by
    have hm := i_mulb (a := v14) (b := v104) (A := 16) (B := 400000) (by omega) (by omega)
    rw [e126]
    omega
  refine w_s (np := 175) (lv' := [some (eR 98), some (eJ (t)), none, some (eJ (u)), none, some (eJ (v)), none, some (eJ (w)), none, some (eJ (v8)), none, some (eJ (v11)), none, some (eJ (v14)), none, some (eJ (v20)), none, some (eJ (v110)), none, some (eJ (v116)), none, some (eJ (v122)), none, some (eJ (v84)), none]) (st' := [eJ (v125), eJ (v84)]) rfl (b_lmul (by rw [← e126]; exact ev_W_in (by omega) (by omega))) rfl ?_
  obtain ⟨v128, e129⟩ : ∃ v : Int, v = (v84) + (v125) := ⟨_, rfl⟩
  have b130 : -9600000 ≤ v128 ∧ v128 ≤ 9600000 := by omega
  refine w_s (np := 176) (lv' := [some (eR 98), some (eJ (t)), none, some (eJ (u)), none, some (eJ (v)), none, some (eJ (w)), none, some (eJ (v8)), none, some (eJ (v11)), none, some (eJ (v14)), none, some (eJ (v20)), none, some (eJ (v110)), none, some (eJ (v116)), none, some (eJ (v122)), none, some (eJ (v84)), none]) (st' := [eJ (v128)]) rfl (b_ladd (by rw [← e129]; exact ev_W_in (by omega) (by omega))) rfl ?_
  refine w_s (np := 178) (lv' := [some (eR 98), some (eJ (t)), none, some (eJ (u)), none, some (eJ (v)), none, some (eJ (w)), none, some (eJ (v8)), none, some (eJ (v11)), none, some (eJ (v14)), none, some (eJ (v20)), none, some (eJ (v110)), none, some (eJ (v116)), none, some (eJ (v122)), none, some (eJ (v128)), none]) (st' := []) rfl rfl rfl ?_
  refine w_s (np := 179) (lv' := [some (eR 98), some (eJ (t)), none, some (eJ (u)), none, some (eJ (v)), none, some (eJ (w)), none, some (eJ (v8)), none, some (eJ (v11)), none, some (eJ (v14)), none, some (eJ (v20)), none, some (eJ (v110)), none, some (eJ (v116)), none, some (eJ (v122)), none, some (eJ (v128)), none]) (st' := [eR 98]) rfl (s_an rfl (by decide)) rfl ?_
  refine w_cv (np := 182) (as := []) (lv' := [some (eR 98)]) (rest := []) rfl rfl rfl (Nat.ble_eq.mp rfl) rfl rfl rfl k93 rfl ?_
  refine t220 k93 f89 f90 f91 f92 (show (-1000000 : Int) ≤ v95 ∧ (v95 : Int) ≤ 1000000 by omega) (show (-1000000 : Int) ≤ v98 ∧ (v98 : Int) ≤ 1000000 by omega) (show (-1000000 : Int) ≤ v101 ∧ (v101 : Int) ≤ 1000000 by omega) (show (-1000000 : Int) ≤ v104 ∧ (v104 : Int) ≤ 1000000 by omega) ?_
  intro m131 s132 f133 f134 f135 f136
  have k137 := tS_kd s132 k93
  have s138 := tS_tr s94 s132
  obtain ⟨v139, e140⟩ : ∃ v : Int, v = (0) - (v104) := ⟨_, rfl⟩
  have b141 : -400000 ≤ v139 ∧ v139 ≤ 400000 := by omega
  rw [← e140] at f133
  obtain ⟨v142, e143⟩ : ∃ v : Int, v = (v95) + (v104) := ⟨_, rfl⟩
  have b144 : -600000 ≤ v142 ∧ v142 ≤ 600000 := by omega
  rw [← e143] at f134
  obtain ⟨v145, e146⟩ : ∃ v : Int, v = (v98) - (v104) := ⟨_, rfl⟩
  have b147 : -700000 ≤ v145 ∧ v145 ≤ 700000 := by omega
  rw [← e146] at f135
  obtain ⟨v148, e149⟩ : ∃ v : Int, v = (v101) + (v104) := ⟨_, rfl⟩
  have b150 : -800000 ≤ v148 ∧ v148 ≤ 800000 := by omega
  rw [← e149] at f136
  show ex_fine fg rc rs (d + 2, (223, 182, [some (eR 98), some (eJ (t)), none, some (eJ (u)), none, some (eJ (v)), none, some (eJ (w)), none, some (eJ (v8)), none, some (eJ (v11)), none, some (eJ (v14)), none, some (eJ (v20)), none, some (eJ (v110)), none, some (eJ (v116)), none, some (eJ (v122)), none, some (eJ (v128)), none], []), f :: F, m131)
  refine w_s (np := 183) (lv' := [some (eR 98), some (eJ (t)), none, some (eJ (u)), none, some (eJ (v)), none, some (eJ (w)), none, some (eJ (v8)), none, some (eJ (v11)), none, some (eJ (v14)), none, some (eJ (v20)), none, some (eJ (v110)), none, some (eJ (v116)), none, some (eJ (v122)), none, some (eJ (v128)), none]) (st' := [eR 98]) rfl (s_an rfl (by decide)) rfl ?_
  refine w_s (np := 185) (lv' := [some (eR 98), some (eJ (t)), none, some (eJ (u)), none, some (eJ (v)), none, some (eJ (w)), none, some (eJ (v8)), none, some (eJ (v11)), none, some (eJ (v14)), none, some (eJ (v20)), none, some (eJ (v110)), none, some (eJ (v116)), none, some (eJ (v122)), none, some (eJ (v128)), none]) (st' := [eJ (v110), eR 98]) rfl rfl rfl ?_
  refine w_s (np := 187) (lv' := [some (eR 98), some (eJ (t)), none, some (eJ (u)), none, some (eJ (v)), none, some (eJ (w)), none, some (eJ (v8)), none, some (eJ (v11)), none, some (eJ (v14)), none, some (eJ (v20)), none, some (eJ (v110)), none, some (eJ (v116)), none, some (eJ (v122)), none, some (eJ (v128)), none]) (st' := [eJ (v20), eJ (v110), eR 98]) rfl rfl rfl ?_
  refine w_s (np := 188) (lv' := [some (eR 98), some (eJ (t)), none, some (eJ (u)), none, some (eJ (v)), none, some (eJ (w)), none, some (eJ (v8)), none, some (eJ (v11)), none, some (eJ (v14)), none, some (eJ (v20)), none, some (eJ (v110)), none, some (eJ (v116)), none, some (eJ (v122)), none, some (eJ (v128)), none]) (st' := [eR 98, eJ (v20), eJ (v110), eR 98]) rfl (s_an rfl (by decide)) rfl ?_
  refine w_gf (np := 191) (v := eJ (v139)) rfl rfl k137 (by rw [f133]; rfl) ?_
  obtain ⟨v151, e152⟩ : ∃ v : Int, v = (v20) * (v139) := ⟨_, rfl⟩
  have b153 : -6400000 ≤ v151 ∧ v151 ≤ 6400000 := by
    have hm := i_mulb (a := v20) (b := v139) (A := 16) (B := 400000) (by omega) (by omega)
    rw [e152]
    omega
  refine w_s (np := 192) (lv' := [some (eR 98), some (eJ (t)), none, some (eJ (u)), none, some (eJ (v)), none, some (eJ (w)), none, some (eJ (v8)), none, some (eJ (v11)), none, some (eJ (v14)), none, some (eJ (v20)), none, some (eJ (v110)), none, some (eJ (v116)), none, some (eJ (v122)), none, some (eJ (v128)), none]) (st' := [eJ (v151), eJ (v110), eR 98]) rfl (b_lmul (by rw [← e152]; exact ev_W_in (by omega) (by omega))) rfl ?_
  obtain ⟨v154, e155⟩ : ∃ v : Int, v = (v110) + (v151) := ⟨_, rfl⟩
  have b156 : -12000000 ≤ v154 ∧ v154 ≤ 12000000 := by omega
  refine w_s (np := 193) (lv' := [some (eR 98), some (eJ (t)), none, some (eJ (u)), none, some (eJ (v)), none, some (eJ (w)), none, some (eJ (v8)), none, some (eJ (v11)), none, some (eJ (v14)), none, some (eJ (v20)), none, some (eJ (v110)), none, some (eJ (v116)), none, some (eJ (v122)), none, some (eJ (v128)), none]) (st' := [eJ (v154), eR 98]) rfl (b_ladd (by rw [← e155]; exact ev_W_in (by omega) (by omega))) rfl ?_
  refine w_s (np := 195) (lv' := [some (eR 98), some (eJ (t)), none, some (eJ (u)), none, some (eJ (v)), none, some (eJ (w)), none, some (eJ (v8)), none, some (eJ (v11)), none, some (eJ (v14)), none, some (eJ (v20)), none, some (eJ (v110)), none, some (eJ (v116)), none, some (eJ (v122)), none, some (eJ (v128)), none]) (st' := [eJ (v116), eJ (v154), eR 98]) rfl rfl rfl ?_
  refine w_s (np := 197) (lv' := [some (eR 98), some (eJ (t)), none, some (eJ (u)), none, some (eJ (v)), none, some (eJ (w)), none, some (eJ (v8)), none, some (eJ (v11)), none, some (eJ (v14)), none, some (eJ (v20)), none, some (eJ (v110)), none, some (eJ (v116)), none, some (eJ (v122)), none, some (eJ (v128)), none]) (st' := [eJ (v20), eJ (v116), eJ (v154), eR 98]) rfl rfl rfl ?_
  refine w_s (np := 198) (lv' := [some (eR 98), some (eJ (t)), none, some (eJ (u)), none, some (eJ (v)), none, some (eJ (w)), none, some (eJ (v8)), none, some (eJ (v11)), none, some (eJ (v14)), none, some (eJ (v20)), none, some (eJ (v110)), none, some (eJ (v116)), none, some (eJ (v122)), none, some (eJ (v128)), none]) (st' := [eR 98, eJ (v20), eJ (v116), eJ (v154), eR 98]) rfl (s_an rfl (by decide)) rfl ?_
  refine w_gf (np := 201) (v := eJ (v142)) rfl rfl k137 (by rw [f134]; rfl) ?_
  obtain ⟨v157, e158⟩ : ∃ v : Int, v = (v20) * (v142) := ⟨_, rfl⟩
  have b159 : -9600000 ≤ v157 ∧ v157 ≤ 9600000 := by
    have hm := i_mulb (a := v20) (b := v142) (A := 16) (B := 600000) (by omega) (by omega)
    rw [e158]
    omega
  refine w_s (np := 202) (lv' := [some (eR 98), some (eJ (t)), none, some (eJ (u)), none, some (eJ (v)), none, some (eJ (w)), none, some (eJ (v8)), none, some (eJ (v11)), none, some (eJ (v14)), none, some (eJ (v20)), none, some (eJ (v110)), none, some (eJ (v116)), none, some (eJ (v122)), none, some (eJ (v128)), none]) (st' := [eJ (v157), eJ (v116), eJ (v154), eR 98]) rfl (b_lmul (by rw [← e158]; exact ev_W_in (by omega) (by omega))) rfl ?_
  obtain ⟨v160, e161⟩ : ∃ v : Int, v = (v116) + (v157) := ⟨_, rfl⟩
  have b162 : -17600000 ≤ v160 ∧ v160 ≤ 17600000 := by omega
  refine w_s (np := 203) (lv' := [some (eR 98), some (eJ (t)), none, some (eJ (u)), none, some (eJ (v)), none, some (eJ (w)), none, some (eJ (v8)), none, some (eJ (v11)), none, some (eJ (v14)), none, some (eJ (v20)), none, some (eJ (v110)), none, some (eJ (v116)), none, some (eJ (v122)), none, some (eJ (v128)), none]) (st' := [eJ (v160), eJ (v154), eR 98]) rfl (b_ladd (by rw [← e161]; exact ev_W_in (by omega) (by omega))) rfl ?_
  refine w_s (np := 205) (lv' := [some (eR 98), some (eJ (t)), none, some (eJ (u)), none, some (eJ (v)), none, some (eJ (w)), none, some (eJ (v8)), none, some (eJ (v11)), none, some (eJ (v14)), none, some (eJ (v20)), none, some (eJ (v110)), none, some (eJ (v116)), none, some (eJ (v122)), none, some (eJ (v128)), none]) (st' := [eJ (v122), eJ (v160), eJ (v154), eR 98]) rfl rfl rfl ?_
  refine w_s (np := 207) (lv' := [some (eR 98), some (eJ (t)), none, some (eJ (u)), none, some (eJ (v)), none, some (eJ (w)), none, some (eJ (v8)), none, some (eJ (v11)), none, some (eJ (v14)), none, some (eJ (v20)), none, some (eJ (v110)), none, some (eJ (v116)), none, some (eJ (v122)), none, some (eJ (v128)), none]) (st' := [eJ (v20), eJ (v122), eJ (v160), eJ (v154), eR 98]) rfl rfl rfl ?_
  refine w_s (np := 208) (lv' := [some (eR 98), some (eJ (t)), none, some (eJ (u)), none, some (eJ (v)), none, some (eJ (w)), none, some (eJ (v8)), none, some (eJ (v11)), none, some (eJ (v14)), none, some (eJ (v20)), none, some (eJ (v110)), none, some (eJ (v116)), none, some (eJ (v122)), none, some (eJ (v128)), none]) (st' := [eR 98, eJ (v20), eJ (v122), eJ (v160), eJ (v154), eR 98]) rfl (s_an rfl (by decide)) rfl ?_
  refine w_gf (np := 211) (v := eJ (v145)) rfl rfl k137 (by rw [f135]; rfl) ?_
  obtain ⟨v163, e164⟩ : ∃ v : Int, v = (v20) * (v145) := ⟨_, rfl⟩
  have b165 : -11200000 ≤ v163 ∧ v163 ≤ 11200000 := by
    have hm := i_mulb (a := v20) (b := v145) (A := 16) (B := 700000) (by omega) (by omega)
    rw [e164]
    omega
  refine w_s (np := 212) (lv' := [some (eR 98), some (eJ (t)), none, some (eJ (u)), none, some (eJ (v)), none, some (eJ (w)), none, some (eJ (v8)), none, some (eJ (v11)), none, some (eJ (v14)), none, some (eJ (v20)), none, some (eJ (v110)), none, some (eJ (v116)), none, some (eJ (v122)), none, some (eJ (v128)), none]) (st' := [eJ (v163), eJ (v122), eJ (v160), eJ (v154), eR 98]) rfl (b_lmul (by rw [← e164]; exact ev_W_in (by omega) (by omega))) rfl ?_
  obtain ⟨v166, e167⟩ : ∃ v : Int, v = (v122) + (v163) := ⟨_, rfl⟩
  have b168 : -20800000 ≤ v166 ∧ v166 ≤ 20800000 := by omega
  refine w_s (np := 213) (lv' := [some (eR 98), some (eJ (t)), none, some (eJ (u)), none, some (eJ (v)), none, some (eJ (w)), none, some (eJ (v8)), none, some (eJ (v11)), none, some (eJ (v14)), none, some (eJ (v20)), none, some (eJ (v110)), none, some (eJ (v116)), none, some (eJ (v122)), none, some (eJ (v128)), none]) (st' := [eJ (v166), eJ (v160), eJ (v154), eR 98]) rfl (b_ladd (by rw [← e167]; exact ev_W_in (by omega) (by omega))) rfl ?_
  refine w_s (np := 215) (lv' := [some (eR 98), some (eJ (t)), none, some (eJ (u)), none, some (eJ (v)), none, some (eJ (w)), none, some (eJ (v8)), none, some (eJ (v11)), none, some (eJ (v14)), none, some (eJ (v20)), none, some (eJ (v110)), none, some (eJ (v116)), none, some (eJ (v122)), none, some (eJ (v128)), none]) (st' := [eJ (v128), eJ (v166), eJ (v160), eJ (v154), eR 98]) rfl rfl rfl ?_
  refine w_s (np := 217) (lv' := [some (eR 98), some (eJ (t)), none, some (eJ (u)), none, some (eJ (v)), none, some (eJ (w)), none, some (eJ (v8)), none, some (eJ (v11)), none, some (eJ (v14)), none, some (eJ (v20)), none, some (eJ (v110)), none, some (eJ (v116)), none, some (eJ (v122)), none, some (eJ (v128)), none]) (st' := [eJ (v20), eJ (v128), eJ (v166), eJ (v160), eJ (v154), eR 98]) rfl rfl rfl ?_
  refine w_s (np := 218) (lv' := [some (eR 98), some (eJ (t)), none, some (eJ (u)), none, some (eJ (v)), none, some (eJ (w)), none, some (eJ (v8)), none, some (eJ (v11)), none, some (eJ (v14)), none, some (eJ (v20)), none, some (eJ (v110)), none, some (eJ (v116)), none, some (eJ (v122)), none, some (eJ (v128)), none]) (st' := [eR 98, eJ (v20), eJ (v128), eJ (v166), eJ (v160), eJ (v154), eR 98]) rfl (s_an rfl (by decide)) rfl ?_
  refine w_gf (np := 221) (v := eJ (v148)) rfl rfl k137 (by rw [f136]; rfl) ?_
  obtain ⟨v169, e170⟩ : ∃ v : Int, v = (v20) * (v148) := ⟨_, rfl⟩
  have b171 : -12800000 ≤ v169 ∧ v169 ≤ 12800000 := by
    have hm := i_mulb (a := v20) (b := v148) (A := 16) (B := 800000) (by omega) (by omega)
    rw [e170]
    omega
  refine w_s (np := 222) (lv' := [some (eR 98), some (eJ (t)), none, some (eJ (u)), none, some (eJ (v)), none, some (eJ (w)), none, some (eJ (v8)), none, some (eJ (v11)), none, some (eJ (v14)), none, some (eJ (v20)), none, some (eJ (v110)), none, some (eJ (v116)), none, some (eJ (v122)), none, some (eJ (v128)), none]) (st' := [eJ (v169), eJ (v128), eJ (v166), eJ (v160), eJ (v154), eR 98]) rfl (b_lmul (by rw [← e170]; exact ev_W_in (by omega) (by omega))) rfl ?_
  obtain ⟨v172, e173⟩ : ∃ v : Int, v = (v128) + (v169) := ⟨_, rfl⟩
  have b174 : -22400000 ≤ v172 ∧ v172 ≤ 22400000 := by omega
  refine w_s (np := 223) (lv' := [some (eR 98), some (eJ (t)), none, some (eJ (u)), none, some (eJ (v)), none, some (eJ (w)), none, some (eJ (v8)), none, some (eJ (v11)), none, some (eJ (v14)), none, some (eJ (v20)), none, some (eJ (v110)), none, some (eJ (v116)), none, some (eJ (v122)), none, some (eJ (v128)), none]) (st' := [eJ (v172), eJ (v166), eJ (v160), eJ (v154), eR 98]) rfl (b_ladd (by rw [← e173]; exact ev_W_in (by omega) (by omega))) rfl ?_
  refine w_cv (np := 226) (as := [eJ (v154), eJ (v160), eJ (v166), eJ (v172)]) (lv' := [some (eR 98), some (eJ (v154)), none, some (eJ (v160)), none, some (eJ (v166)), none, some (eJ (v172)), none]) (rest := []) rfl rfl rfl (Nat.ble_eq.mp rfl) rfl rfl rfl k137 rfl ?_
  refine t219 k137 ?_
  intro m175 s176 f177 f178 f179 f180
  have k181 := tS_kd s176 k137
  have s182 := tS_tr s138 s176
  show ex_fine fg rc rs (d + 2, (223, 226, [some (eR 98), some (eJ (t)), none, some (eJ (u)), none, some (eJ (v)), none, some (eJ (w)), none, some (eJ (v8)), none, some (eJ (v11)), none, some (eJ (v14)), none, some (eJ (v20)), none, some (eJ (v110)), none, some (eJ (v116)), none, some (eJ (v122)), none, some (eJ (v128)), none], []), f :: F, m175)
  refine v_rv rfl rfl (K _ _ _ _ _ s182 f177 f178 f179 f180 ?_ ?_ b162 b168 b174)
  · subst e173; subst e170; subst e167; subst e164; subst e161; subst e158; subst e155; subst e152; subst e149; subst e146; subst e143; subst e140; subst e129; subst e126; subst e123; subst e120; subst e117; subst e114; subst e111; subst e108; subst e105; subst e102; subst e99; subst e96; subst e85; subst e82; subst e79; subst e76; subst e73; subst e70; subst e67; subst e64; subst e61; subst e58; subst e55; subst e52; subst e41; subst e38; subst e35; subst e32; subst e21; subst e18; subst e15; subst e12; subst e9; rfl
  · subst e173; subst e170; subst e167; subst e164; subst e161; subst e158; subst e155; subst e152; subst e149; subst e146; subst e143; subst e140; subst e129; subst e126; subst e123; subst e120; subst e117; subst e114; subst e111; subst e108; subst e105; subst e102; subst e99; subst e96; subst e85; subst e82; subst e79; subst e76; subst e73; subst e70; subst e67; subst e64; subst e61; subst e58; subst e55; subst e52; subst e41; subst e38; subst e35; subst e32; subst e21; subst e18; subst e15; subst e12; subst e9; rfl
theorem t222 {fg : eG} {rc rs d : Nat} {f : eFr} {F : List eFr} {μ : eM} {a b : Int} (ha : -50000000 ≤ a ∧ a ≤ 50000000) (hb : -50000000 ≤ b ∧ b ≤ 50000000) (K : ex_fine fg rc rs (d + 1, (f.1, f.2.1, f.2.2.1, eI (rSg (2 * a + b) b) :: f.2.2.2), F, μ)) : ex_fine fg rc rs (d, (222, 0, [some (eJ (a)), none, some (eJ (b)), none, none, none, none, none, none, none], []), f :: F, μ) := by
  refine v_l2 (np := 3) (c := 2) rfl rfl (by decide) ?_
  rw [show zJ 2 = 2 by decide]
  refine w_s (np := 4) (lv' := [some (eJ (a)), none, some (eJ (b)), none, none, none, none, none, none, none]) (st' := [eJ (a), eJ (2)]) rfl rfl rfl ?_
  obtain ⟨v1, e2⟩ : ∃ v : Int, v = (2) * (a) := ⟨_, rfl⟩
  have b3 : -100000000 ≤ v1 ∧ v1 ≤ 100000000 := by omega
  refine w_s (np := 5) (lv' := [some (eJ (a)), none, some (eJ (b)), none, none, none, none, none, none, none]) (st' := [eJ (v1)]) rfl (b_lmul (by rw [← e2]; exact ev_W_in (by omega) (by omega))) rfl ?_
  refine w_s (np := 6) (lv' := [some (eJ (a)), none, some (eJ (b)), none, none, none, none, none, none, none]) (st' := [eJ (b), eJ (v1)]) rfl rfl rfl ?_
  obtain ⟨v4, e5⟩ : ∃ v : Int, v = (v1) + (b) := ⟨_, rfl⟩
  have b6 : -150000000 ≤ v4 ∧ v4 ≤ 150000000 := by omega
  refine w_s (np := 7) (lv' := [some (eJ (a)), none, some (eJ (b)), none, none, none, none, none, none, none]) (st' := [eJ (v4)]) rfl (b_ladd (by rw [← e5]; exact ev_W_in (by omega) (by omega))) rfl ?_
  refine w_s (np := 9) (lv' := [some (eJ (a)), none, some (eJ (b)), none, some (eJ (v4)), none, none, none, none, none]) (st' := []) rfl rfl rfl ?_
  refine w_s (np := 11) (lv' := [some (eJ (a)), none, some (eJ (b)), none, some (eJ (v4)), none, none, none, none, none]) (st' := [eJ (v4)]) rfl rfl rfl ?_
  refine w_s (np := 12) (lv' := [some (eJ (a)), none, some (eJ (b)), none, some (eJ (v4)), none, none, none, none, none]) (st' := [eJ (0), eJ (v4)]) rfl rfl rfl ?_
  refine b_llt (t1 := 41) (t2 := 16) rfl rfl rfl (ev_W_in (by omega) (by omega)) rfl (fun g7 => ?_) (fun g7 => ?_)
  · refine w_s (np := 43) (lv' := [some (eJ (a)), none, some (eJ (b)), none, some (eJ (v4)), none, none, none, none, none]) (st' := [eJ (v4)]) rfl rfl rfl ?_
    refine w_s (np := 44) (lv' := [some (eJ (a)), none, some (eJ (b)), none, some (eJ (v4)), none, none, none, none, none]) (st' := [eJ (0), eJ (v4)]) rfl rfl rfl ?_
    refine b_lgt (t1 := 56) (t2 := 48) rfl rfl rfl (ev_W_in (by omega) (by omega)) rfl (fun g8 => ?_) (fun g8 => ?_)
    · refine w_s (np := 58) (lv' := [some (eJ (a)), none, some (eJ (b)), none, some (eJ (v4)), none, none, none, none, none]) (st' := [eJ (v4)]) rfl rfl rfl ?_
      refine w_s (np := 60) (lv' := [some (eJ (a)), none, some (eJ (b)), none, some (eJ (v4)), none, none, none, none, none]) (st' := [eJ (v4), eJ (v4)]) rfl rfl rfl ?_
      obtain ⟨v9, e10⟩ : ∃ v : Int, v = (v4) * (v4) := ⟨_, rfl⟩
      have b11 : -22500000000000000 ≤ v9 ∧ v9 ≤ 22500000000000000 := by
        have hm := i_mulb (a := v4) (b := v4) (A := 150000000) (B := 150000000) (by omega) (by omega)
        rw [e10]
        omega
      refine w_s (np := 61) (lv' := [some (eJ (a)), none, some (eJ (b)), none, some (eJ (v4)), none, none, none, none, none]) (st' := [eJ (v9)]) rfl (b_lmul (by rw [← e10]; exact ev_W_in (by omega) (by omega))) rfl ?_
      refine w_s (np := 63) (lv' := [some (eJ (a)), none, some (eJ (b)), none, some (eJ (v4)), none, some (eJ (v9)), none, none, none]) (st' := []) rfl rfl rfl ?_
      refine v_l2 (np := 66) (c := 5) rfl rfl (by decide) ?_
      rw [show zJ 5 = 5 by decide]
      refine w_s (np := 67) (lv' := [some (eJ (a)), none, some (eJ (b)), none, some (eJ (v4)), none, some (eJ (v9)), none, none, none]) (st' := [eJ (b), eJ (5)]) rfl rfl rfl ?_
      obtain ⟨v12, e13⟩ : ∃ v : Int, v = (5) * (b) := ⟨_, rfl⟩
      have b14 : -250000000 ≤ v12 ∧ v12 ≤ 250000000 := by omega
      refine w_s (np := 68) (lv' := [some (eJ (a)), none, some (eJ (b)), none, some (eJ (v4)), none, some (eJ (v9)), none, none, none]) (st' := [eJ (v12)]) rfl (b_lmul (by rw [← e13]; exact ev_W_in (by omega) (by omega))) rfl ?_
      refine w_s (np := 69) (lv' := [some (eJ (a)), none, some (eJ (b)), none, some (eJ (v4)), none, some (eJ (v9)), none, none, none]) (st' := [eJ (b), eJ (v12)]) rfl rfl rfl ?_
      obtain ⟨v15, e16⟩ : ∃ v : Int, v = (v12) * (b) := ⟨_, rfl⟩
      have b17 : -12500000000000000 ≤ v15 ∧ v15 ≤ 12500000000000000 := by
        have hm := i_mulb (a := v12) (b := b) (A := 250000000) (B := 50000000) (by omega) (by omega)
        rw [e16]
        omega
      refine w_s (np := 70) (lv' := [some (eJ (a)), none, some (eJ (b)), none, some (eJ (v4)), none, some (eJ (v9)), none, none, none]) (st' := [eJ (v15)]) rfl (b_lmul (by rw [← e16]; exact ev_W_in (by omega) (by omega))) rfl ?_
      refine w_s (np := 72) (lv' := [some (eJ (a)), none, some (eJ (b)), none, some (eJ (v4)), none, some (eJ (v9)), none, some (eJ (v15)), none]) (st' := []) rfl rfl rfl ?_
      refine w_s (np := 74) (lv' := [some (eJ (a)), none, some (eJ (b)), none, some (eJ (v4)), none, some (eJ (v9)), none, some (eJ (v15)), none]) (st' := [eJ (v4)]) rfl rfl rfl ?_
      refine w_s (np := 75) (lv' := [some (eJ (a)), none, some (eJ (b)), none, some (eJ (v4)), none, some (eJ (v9)), none, some (eJ (v15)), none]) (st' := [eJ (0), eJ (v4)]) rfl rfl rfl ?_
      refine b_lle (t1 := 95) (t2 := 79) rfl rfl rfl (ev_W_in (by omega) (by omega)) rfl (fun g18 => ?_) (fun g18 => ?_)
      · refine w_s (np := 97) (lv' := [some (eJ (a)), none, some (eJ (b)), none, some (eJ (v4)), none, some (eJ (v9)), none, some (eJ (v15)), none]) (st' := [eJ (v15)]) rfl rfl rfl ?_
        refine w_s (np := 99) (lv' := [some (eJ (a)), none, some (eJ (b)), none, some (eJ (v4)), none, some (eJ (v9)), none, some (eJ (v15)), none]) (st' := [eJ (v9), eJ (v15)]) rfl rfl rfl ?_
        refine b_lle (t1 := 107) (t2 := 103) rfl rfl rfl (ev_W_in (by omega) (by omega)) (ev_W_in (by omega) (by omega)) (fun g19 => ?_) (fun g19 => ?_)
        · refine w_s (np := 108) (lv' := [some (eJ (a)), none, some (eJ (b)), none, some (eJ (v4)), none, some (eJ (v9)), none, some (eJ (v15)), none]) (st' := [eI (-1)]) rfl rfl rfl ?_
          refine b_ri rfl rfl ?_
          have hx : v4 = 2 * a + b := by omega
          rw [e13] at e16
          have hr : rSg (2 * a + b) b = -1 := by
            rw [← hx]
            unfold rSg
            repeat' split
            all_goals omega
          rw [hr] at K
          exact K
        · refine w_s (np := 104) (lv' := [some (eJ (a)), none, some (eJ (b)), none, some (eJ (v4)), none, some (eJ (v9)), none, some (eJ (v15)), none]) (st' := [eI (1)]) rfl rfl rfl ?_
          refine w_go (t1 := 108) rfl rfl ?_
          refine b_ri rfl rfl ?_
          have hx : v4 = 2 * a + b := by omega
          rw [e13] at e16
          have hr : rSg (2 * a + b) b = 1 := by
            rw [← hx]
            unfold rSg
            repeat' split
            all_goals omega
          rw [hr] at K
          exact K
      · refine w_s (np := 81) (lv' := [some (eJ (a)), none, some (eJ (b)), none, some (eJ (v4)), none, some (eJ (v9)), none, some (eJ (v15)), none]) (st' := [eJ (v9)]) rfl rfl rfl ?_
        refine w_s (np := 83) (lv' := [some (eJ (a)), none, some (eJ (b)), none, some (eJ (v4)), none, some (eJ (v9)), none, some (eJ (v15)), none]) (st' := [eJ (v15), eJ (v9)]) rfl rfl rfl ?_
        refine b_lle (t1 := 91) (t2 := 87) rfl rfl rfl (ev_W_in (by omega) (by omega)) (ev_W_in (by omega) (by omega)) (fun g19 => ?_) (fun g19 => ?_)
        · refine w_s (np := 92) (lv' := [some (eJ (a)), none, some (eJ (b)), none, some (eJ (v4)), none, some (eJ (v9)), none, some (eJ (v15)), none]) (st' := [eI (-1)]) rfl rfl rfl ?_
          refine w_go (t1 := 108) rfl rfl ?_
          refine b_ri rfl rfl ?_
          have hx : v4 = 2 * a + b := by omega
          rw [e13] at e16
          have hr : rSg (2 * a + b) b = -1 := by
            rw [← hx]
            unfold rSg
            repeat' split
            all_goals omega
          rw [hr] at K
          exact K
        · refine w_s (np := 88) (lv' := [some (eJ (a)), none, some (eJ (b)), none, some (eJ (v4)), none, some (eJ (v9)), none, some (eJ (v15)), none]) (st' := [eI (1)]) rfl rfl rfl ?_
          refine w_go (t1 := 108) rfl rfl ?_
          refine b_ri rfl rfl ?_
          have hx : v4 = 2 * a + b := by omega
          rw [e13] at e16
          have hr : rSg (2 * a + b) b = 1 := by
            rw [← hx]
            unfold rSg
            repeat' split
            all_goals omega
          rw [hr] at K
          exact K
    · refine w_s (np := 49) (lv' := [some (eJ (a)), none, some (eJ (b)), none, some (eJ (v4)), none, none, none, none, none]) (st' := [eJ (b)]) rfl rfl rfl ?_
      refine w_s (np := 50) (lv' := [some (eJ (a)), none, some (eJ (b)), none, some (eJ (v4)), none, none, none, none, none]) (st' := [eJ (0), eJ (b)]) rfl rfl rfl ?_
      refine b_lgt (t1 := 56) (t2 := 54) rfl rfl rfl (ev_W_in (by omega) (by omega)) rfl (fun g9 => ?_) (fun g9 => ?_)
      · refine w_s (np := 58) (lv' := [some (eJ (a)), none, some (eJ (b)), none, some (eJ (v4)), none, none, none, none, none]) (st' := [eJ (v4)]) rfl rfl rfl ?_
        refine w_s (np := 60) (lv' := [some (eJ (a)), none, some (eJ (b)), none, some (eJ (v4)), none, none, none, none, none]) (st' := [eJ (v4), eJ (v4)]) rfl rfl rfl ?_
        obtain ⟨v10, e11⟩ : ∃ v : Int, v = (v4) * (v4) := ⟨_, rfl⟩
        have b12 : -22500000000000000 ≤ v10 ∧ v10 ≤ 22500000000000000 := by
          have hm := i_mulb (a := v4) (b := v4) (A := 150000000) (B := 150000000) (by omega) (by omega)
          rw [e11]
          omega
        refine w_s (np := 61) (lv' := [some (eJ (a)), none, some (eJ (b)), none, some (eJ (v4)), none, none, none, none, none]) (st' := [eJ (v10)]) rfl (b_lmul (by rw [← e11]; exact ev_W_in (by omega) (by omega))) rfl ?_
        refine w_s (np := 63) (lv' := [some (eJ (a)), none, some (eJ (b)), none, some (eJ (v4)), none, some (eJ (v10)), none, none, none]) (st' := []) rfl rfl rfl ?_
        refine v_l2 (np := 66) (c := 5) rfl rfl (by decide) ?_
        rw [show zJ 5 = 5 by decide]
        refine w_s (np := 67) (lv' := [some (eJ (a)), none, some (eJ (b)), none, some (eJ (v4)), none, some (eJ (v10)), none, none, none]) (st' := [eJ (b), eJ (5)]) rfl rfl rfl ?_
        obtain ⟨v13, e14⟩ : ∃ v : Int, v = (5) * (b) := ⟨_, rfl⟩
        have b15 : -250000000 ≤ v13 ∧ v13 ≤ 250000000 := by omega
        refine w_s (np := 68) (lv' := [some (eJ (a)), none, some (eJ (b)), none, some (eJ (v4)), none, some (eJ (v10)), none, none, none]) (st' := [eJ (v13)]) rfl (b_lmul (by rw [← e14]; exact ev_W_in (by omega) (by omega))) rfl ?_
        refine w_s (np := 69) (lv' := [some (eJ (a)), none, some (eJ (b)), none, some (eJ (v4)), none, some (eJ (v10)), none, none, none]) (st' := [eJ (b), eJ (v13)]) rfl rfl rfl ?_
        obtain ⟨v16, e17⟩ : ∃ v : Int, v = (v13) * (b) := ⟨_, rfl⟩
        have b18 : -12500000000000000 ≤ v16 ∧ v16 ≤ 12500000000000000 := by
          have hm := i_mulb (a := v13) (b := b) (A := 250000000) (B := 50000000) (by omega) (by omega)
          rw [e17]
          omega
        refine w_s (np := 70) (lv' := [some (eJ (a)), none, some (eJ (b)), none, some (eJ (v4)), none, some (eJ (v10)), none, none, none]) (st' := [eJ (v16)]) rfl (b_lmul (by rw [← e17]; exact ev_W_in (by omega) (by omega))) rfl ?_
        refine w_s (np := 72) (lv' := [some (eJ (a)), none, some (eJ (b)), none, some (eJ (v4)), none, some (eJ (v10)), none, some (eJ (v16)), none]) (st' := []) rfl rfl rfl ?_
        refine w_s (np := 74) (lv' := [some (eJ (a)), none, some (eJ (b)), none, some (eJ (v4)), none, some (eJ (v10)), none, some (eJ (v16)), none]) (st' := [eJ (v4)]) rfl rfl rfl ?_
        refine w_s (np := 75) (lv' := [some (eJ (a)), none, some (eJ (b)), none, some (eJ (v4)), none, some (eJ (v10)), none, some (eJ (v16)), none]) (st' := [eJ (0), eJ (v4)]) rfl rfl rfl ?_
        refine b_lle (t1 := 95) (t2 := 79) rfl rfl rfl (ev_W_in (by omega) (by omega)) rfl (fun g19 => ?_) (fun g19 => ?_)
        · refine w_s (np := 97) (lv' := [some (eJ (a)), none, some (eJ (b)), none, some (eJ (v4)), none, some (eJ (v10)), none, some (eJ (v16)), none]) (st' := [eJ (v16)]) rfl rfl rfl ?_
          refine w_s (np := 99) (lv' := [some (eJ (a)), none, some (eJ (b)), none, some (eJ (v4)), none, some (eJ (v10)), none, some (eJ (v16)), none]) (st' := [eJ (v10), eJ (v16)]) rfl rfl rfl ?_
          refine b_lle (t1 := 107) (t2 := 103) rfl rfl rfl (ev_W_in (by omega) (by omega)) (ev_W_in (by omega) (by omega)) (fun g20 => ?_) (fun g20 => ?_)
          · refine w_s (np := 108) (lv' := [some (eJ (a)), none, some (eJ (b)), none, some (eJ (v4)), none, some (eJ (v10)), none, some (eJ (v16)), none]) (st' := [eI (-1)]) rfl rfl rfl ?_
            refine b_ri rfl rfl ?_
            have hx : v4 = 2 * a + b := by omega
            rw [e14] at e17
            have hr : rSg (2 * a + b) b = -1 := by
              rw [← hx]
              unfold rSg
              repeat' split
              all_goals omega
            rw [hr] at K
            exact K
          · refine w_s (np := 104) (lv' := [some (eJ (a)), none, some (eJ (b)), none, some (eJ (v4)), none, some (eJ (v10)), none, some (eJ (v16)), none]) (st' := [eI (1)]) rfl rfl rfl ?_
            refine w_go (t1 := 108) rfl rfl ?_
            refine b_ri rfl rfl ?_
            have hx : v4 = 2 * a + b := by omega
            rw [e14] at e17
            have hr : rSg (2 * a + b) b = 1 := by
              rw [← hx]
              unfold rSg
              repeat' split
              all_goals omega
            rw [hr] at K
            exact K
        · refine w_s (np := 81) (lv' := [some (eJ (a)), none, some (eJ (b)), none, some (eJ (v4)), none, some (eJ (v10)), none, some (eJ (v16)), none]) (st' := [eJ (v10)]) rfl rfl rfl ?_
          refine w_s (np := 83) (lv' := [some (eJ (a)), none, some (eJ (b)), none, some (eJ (v4)), none, some (eJ (v10)), none, some (eJ (v16)), none]) (st' := [eJ (v16), eJ (v10)]) rfl rfl rfl ?_
          refine b_lle (t1 := 91) (t2 := 87) rfl rfl rfl (ev_W_in (by omega) (by omega)) (ev_W_in (by omega) (by omega)) (fun g20 => ?_) (fun g20 => ?_)
          · refine w_s (np := 92) (lv' := [some (eJ (a)), none, some (eJ (b)), none, some (eJ (v4)), none, some (eJ (v10)), none, some (eJ (v16)), none]) (st' := [eI (-1)]) rfl rfl rfl ?_
            refine w_go (t1 := 108) rfl rfl ?_
            refine b_ri rfl rfl ?_
            have hx : v4 = 2 * a + b := by omega
            rw [e14] at e17
            have hr : rSg (2 * a + b) b = -1 := by
              rw [← hx]
              unfold rSg
              repeat' split
              all_goals omega
            rw [hr] at K
            exact K
          · refine w_s (np := 88) (lv' := [some (eJ (a)), none, some (eJ (b)), none, some (eJ (v4)), none, some (eJ (v10)), none, some (eJ (v16)), none]) (st' := [eI (1)]) rfl rfl rfl ?_
            refine w_go (t1 := 108) rfl rfl ?_
            refine b_ri rfl rfl ?_
            have hx : v4 = 2 * a + b := by omega
            rw [e14] at e17
            have hr : rSg (2 * a + b) b = 1 := by
              rw [← hx]
              unfold rSg
              repeat' split
              all_goals omega
            rw [hr] at K
            exact K
      · refine w_s (np := 55) (lv' := [some (eJ (a)), none, some (eJ (b)), none, some (eJ (v4)), none, none, none, none, none]) (st' := [eI (-1)]) rfl rfl rfl ?_
        refine b_ri rfl rfl ?_
        have hx : v4 = 2 * a + b := by omega
        have hr : rSg (2 * a + b) b = -1 := by
          rw [← hx]
          unfold rSg
          repeat' split
          all_goals omega
        rw [hr] at K
        exact K
  · refine w_s (np := 17) (lv' := [some (eJ (a)), none, some (eJ (b)), none, some (eJ (v4)), none, none, none, none, none]) (st' := [eJ (b)]) rfl rfl rfl ?_
    refine w_s (np := 18) (lv' := [some (eJ (a)), none, some (eJ (b)), none, some (eJ (v4)), none, none, none, none, none]) (st' := [eJ (0), eJ (b)]) rfl rfl rfl ?_
    refine b_llt (t1 := 41) (t2 := 22) rfl rfl rfl (ev_W_in (by omega) (by omega)) rfl (fun g8 => ?_) (fun g8 => ?_)
    · refine w_s (np := 43) (lv' := [some (eJ (a)), none, some (eJ (b)), none, some (eJ (v4)), none, none, none, none, none]) (st' := [eJ (v4)]) rfl rfl rfl ?_
      refine w_s (np := 44) (lv' := [some (eJ (a)), none, some (eJ (b)), none, some (eJ (v4)), none, none, none, none, none]) (st' := [eJ (0), eJ (v4)]) rfl rfl rfl ?_
      refine b_lgt (t1 := 56) (t2 := 48) rfl rfl rfl (ev_W_in (by omega) (by omega)) rfl (fun g9 => ?_) (fun g9 => ?_)
      · refine w_s (np := 58) (lv' := [some (eJ (a)), none, some (eJ (b)), none, some (eJ (v4)), none, none, none, none, none]) (st' := [eJ (v4)]) rfl rfl rfl ?_
        refine w_s (np := 60) (lv' := [some (eJ (a)), none, some (eJ (b)), none, some (eJ (v4)), none, none, none, none, none]) (st' := [eJ (v4), eJ (v4)]) rfl rfl rfl ?_
        obtain ⟨v10, e11⟩ : ∃ v : Int, v = (v4) * (v4) := ⟨_, rfl⟩
        have b12 : -22500000000000000 ≤ v10 ∧ v10 ≤ 22500000000000000 := by
          have hm := i_mulb (a := v4) (b := v4) (A := 150000000) (B := 150000000) (by omega) (by omega)
          rw [e11]
          omega
        refine w_s (np := 61) (lv' := [some (eJ (a)), none, some (eJ (b)), none, some (eJ (v4)), none, none, none, none, none]) (st' := [eJ (v10)]) rfl (b_lmul (by rw [← e11]; exact ev_W_in (by omega) (by omega))) rfl ?_
        refine w_s (np := 63) (lv' := [some (eJ (a)), none, some (eJ (b)), none, some (eJ (v4)), none, some (eJ (v10)), none, none, none]) (st' := []) rfl rfl rfl ?_
        refine v_l2 (np := 66) (c := 5) rfl rfl (by decide) ?_
        rw [show zJ 5 = 5 by decide]
        refine w_s (np := 67) (lv' := [some (eJ (a)), none, some (eJ (b)), none, some (eJ (v4)), none, some (eJ (v10)), none, none, none]) (st' := [eJ (b), eJ (5)]) rfl rfl rfl ?_
        obtain ⟨v13, e14⟩ : ∃ v : Int, v = (5) * (b) := ⟨_, rfl⟩
        have b15 : -250000000 ≤ v13 ∧ v13 ≤ 250000000 := by omega
        refine w_s (np := 68) (lv' := [some (eJ (a)), none, some (eJ (b)), none, some (eJ (v4)), none, some (eJ (v10)), none, none, none]) (st' := [eJ (v13)]) rfl (b_lmul (by rw [← e14]; exact ev_W_in (by omega) (by omega))) rfl ?_
        refine w_s (np := 69) (lv' := [some (eJ (a)), none, some (eJ (b)), none, some (eJ (v4)), none, some (eJ (v10)), none, none, none]) (st' := [eJ (b), eJ (v13)]) rfl rfl rfl ?_
        obtain ⟨v16, e17⟩ : ∃ v : Int, v = (v13) * (b) := ⟨_, rfl⟩
        have b18 : -12500000000000000 ≤ v16 ∧ v16 ≤ 12500000000000000 := by
          have hm := i_mulb (a := v13) (b := b) (A := 250000000) (B := 50000000) (by omega) (by omega)
          rw [e17]
          omega
        refine w_s (np := 70) (lv' := [some (eJ (a)), none, some (eJ (b)), none, some (eJ (v4)), none, some (eJ (v10)), none, none, none]) (st' := [eJ (v16)]) rfl (b_lmul (by rw [← e17]; exact ev_W_in (by omega) (by omega))) rfl ?_
        refine w_s (np := 72) (lv' := [some (eJ (a)), none, some (eJ (b)), none, some (eJ (v4)), none, some (eJ (v10)), none, some (eJ (v16)), none]) (st' := []) rfl rfl rfl ?_
        refine w_s (np := 74) (lv' := [some (eJ (a)), none, some (eJ (b)), none, some (eJ (v4)), none, some (eJ (v10)), none, some (eJ (v16)), none]) (st' := [eJ (v4)]) rfl rfl rfl ?_
        refine w_s (np := 75) (lv' := [some (eJ (a)), none, some (eJ (b)), none, some (eJ (v4)), none, some (eJ (v10)), none, some (eJ (v16)), none]) (st' := [eJ (0), eJ (v4)]) rfl rfl rfl ?_
        refine b_lle (t1 := 95) (t2 := 79) rfl rfl rfl (ev_W_in (by omega) (by omega)) rfl (fun g19 => ?_) (fun g19 => ?_)
        · refine w_s (np := 97) (lv' := [some (eJ (a)), none, some (eJ (b)), none, some (eJ (v4)), none, some (eJ (v10)), none, some (eJ (v16)), none]) (st' := [eJ (v16)]) rfl rfl rfl ?_
          refine w_s (np := 99) (lv' := [some (eJ (a)), none, some (eJ (b)), none, some (eJ (v4)), none, some (eJ (v10)), none, some (eJ (v16)), none]) (st' := [eJ (v10), eJ (v16)]) rfl rfl rfl ?_
          refine b_lle (t1 := 107) (t2 := 103) rfl rfl rfl (ev_W_in (by omega) (by omega)) (ev_W_in (by omega) (by omega)) (fun g20 => ?_) (fun g20 => ?_)
          · refine w_s (np := 108) (lv' := [some (eJ (a)), none, some (eJ (b)), none, some (eJ (v4)), none, some (eJ (v10)), none, some (eJ (v16)), none]) (st' := [eI (-1)]) rfl rfl rfl ?_
            refine b_ri rfl rfl ?_
            have hx : v4 = 2 * a + b := by omega
            rw [e14] at e17
            have hr : rSg (2 * a + b) b = -1 := by
              rw [← hx]
              unfold rSg
              repeat' split
              all_goals omega
            rw [hr] at K
            exact K
          · refine w_s (np := 104) (lv' := [some (eJ (a)), none, some (eJ (b)), none, some (eJ (v4)), none, some (eJ (v10)), none, some (eJ (v16)), none]) (st' := [eI (1)]) rfl rfl rfl ?_
            refine w_go (t1 := 108) rfl rfl ?_
            refine b_ri rfl rfl ?_
            have hx : v4 = 2 * a + b := by omega
            rw [e14] at e17
            have hr : rSg (2 * a + b) b = 1 := by
              rw [← hx]
              unfold rSg
              repeat' split
              all_goals omega
            rw [hr] at K
            exact K
        · refine w_s (np := 81) (lv' := [some (eJ (a)), none, some (eJ (b)), none, some (eJ (v4)), none, some (eJ (v10)), none, some (eJ (v16)), none]) (st' := [eJ (v10)]) rfl rfl rfl ?_
          refine w_s (np := 83) (lv' := [some (eJ (a)), none, some (eJ (b)), none, some (eJ (v4)), none, some (eJ (v10)), none, some (eJ (v16)), none]) (st' := [eJ (v16), eJ (v10)]) rfl rfl rfl ?_
          refine b_lle (t1 := 91) (t2 := 87) rfl rfl rfl (ev_W_in (by omega) (by omega)) (ev_W_in (by omega) (by omega)) (fun g20 => ?_) (fun g20 => ?_)
          · refine w_s (np := 92) (lv' := [some (eJ (a)), none, some (eJ (b)), none, some (eJ (v4)), none, some (eJ (v10)), none, some (eJ (v16)), none]) (st' := [eI (-1)]) rfl rfl rfl ?_
            refine w_go (t1 := 108) rfl rfl ?_
            refine b_ri rfl rfl ?_
            have hx : v4 = 2 * a + b := by omega
            rw [e14] at e17
            have hr : rSg (2 * a + b) b = -1 := by
              rw [← hx]
              unfold rSg
              repeat' split
              all_goals omega
            rw [hr] at K
            exact K
          · refine w_s (np := 88) (lv' := [some (eJ (a)), none, some (eJ (b)), none, some (eJ (v4)), none, some (eJ (v10)), none, some (eJ (v16)), none]) (st' := [eI (1)]) rfl rfl rfl ?_
            refine w_go (t1 := 108) rfl rfl ?_
            refine b_ri rfl rfl ?_
            have hx : v4 = 2 * a + b := by omega
            rw [e14] at e17
            have hr : rSg (2 * a + b) b = 1 := by
              rw [← hx]
              unfold rSg
              repeat' split
              all_goals omega
            rw [hr] at K
            exact K
      · refine w_s (np := 49) (lv' := [some (eJ (a)), none, some (eJ (b)), none, some (eJ (v4)), none, none, none, none, none]) (st' := [eJ (b)]) rfl rfl rfl ?_
        refine w_s (np := 50) (lv' := [some (eJ (a)), none, some (eJ (b)), none, some (eJ (v4)), none, none, none, none, none]) (st' := [eJ (0), eJ (b)]) rfl rfl rfl ?_
        refine b_lgt (t1 := 56) (t2 := 54) rfl rfl rfl (ev_W_in (by omega) (by omega)) rfl (fun g10 => ?_) (fun g10 => ?_)
        · refine w_s (np := 58) (lv' := [some (eJ (a)), none, some (eJ (b)), none, some (eJ (v4)), none, none, none, none, none]) (st' := [eJ (v4)]) rfl rfl rfl ?_
          refine w_s (np := 60) (lv' := [some (eJ (a)), none, some (eJ (b)), none, some (eJ (v4)), none, none, none, none, none]) (st' := [eJ (v4), eJ (v4)]) rfl rfl rfl ?_
          obtain ⟨v11, e12⟩ : ∃ v : Int, v = (v4) * (v4) := ⟨_, rfl⟩
          have b13 : -22500000000000000 ≤ v11 ∧ v11 ≤ 22500000000000000 := by
            have hm := i_mulb (a := v4) (b := v4) (A := 150000000) (B := 150000000) (by omega) (by omega)
            rw [e12]
            omega
          refine w_s (np := 61) (lv' := [some (eJ (a)), none, some (eJ (b)), none, some (eJ (v4)), none, none, none, none, none]) (st' := [eJ (v11)]) rfl (b_lmul (by rw [← e12]; exact ev_W_in (by omega) (by omega))) rfl ?_
          refine w_s (np := 63) (lv' := [some (eJ (a)), none, some (eJ (b)), none, some (eJ (v4)), none, some (eJ (v11)), none, none, none]) (st' := []) rfl rfl rfl ?_
          refine v_l2 (np := 66) (c := 5) rfl rfl (by decide) ?_
          rw [show zJ 5 = 5 by decide]
          refine w_s (np := 67) (lv' := [some (eJ (a)), none, some (eJ (b)), none, some (eJ (v4)), none, some (eJ (v11)), none, none, none]) (st' := [eJ (b), eJ (5)]) rfl rfl rfl ?_
          obtain ⟨v14, e15⟩ : ∃ v : Int, v = (5) * (b) := ⟨_, rfl⟩
          have b16 : -250000000 ≤ v14 ∧ v14 ≤ 250000000 := by omega
          refine w_s (np := 68) (lv' := [some (eJ (a)), none, some (eJ (b)), none, some (eJ (v4)), none, some (eJ (v11)), none, none, none]) (st' := [eJ (v14)]) rfl (b_lmul (by rw [← e15]; exact ev_W_in (by omega) (by omega))) rfl ?_
          refine w_s (np := 69) (lv' := [some (eJ (a)), none, some (eJ (b)), none, some (eJ (v4)), none, some (eJ (v11)), none, none, none]) (st' := [eJ (b), eJ (v14)]) rfl rfl rfl ?_
          obtain ⟨v17, e18⟩ : ∃ v : Int, v = (v14) * (b) := ⟨_, rfl⟩
          have b19 : -12500000000000000 ≤ v17 ∧ v17 ≤ 12500000000000000 := by
            have hm := i_mulb (a := v14) (b := b) (A := 250000000) (B := 50000000) (by omega) (by omega)
            rw [e18]
            omega
          refine w_s (np := 70) (lv' := [some (eJ (a)), none, some (eJ (b)), none, some (eJ (v4)), none, some (eJ (v11)), none, none, none]) (st' := [eJ (v17)]) rfl (b_lmul (by rw [← e18]; exact ev_W_in (by omega) (by omega))) rfl ?_
          refine w_s (np := 72) (lv' := [some (eJ (a)), none, some (eJ (b)), none, some (eJ (v4)), none, some (eJ (v11)), none, some (eJ (v17)), none]) (st' := []) rfl rfl rfl ?_
          refine w_s (np := 74) (lv' := [some (eJ (a)), none, some (eJ (b)), none, some (eJ (v4)), none, some (eJ (v11)), none, some (eJ (v17)), none]) (st' := [eJ (v4)]) rfl rfl rfl ?_
          refine w_s (np := 75) (lv' := [some (eJ (a)), none, some (eJ (b)), none, some (eJ (v4)), none, some (eJ (v11)), none, some (eJ (v17)), none]) (st' := [eJ (0), eJ (v4)]) rfl rfl rfl ?_
          refine b_lle (t1 := 95) (t2 := 79) rfl rfl rfl (ev_W_in (by omega) (by omega)) rfl (fun g20 => ?_) (fun g20 => ?_)
          · refine w_s (np := 97) (lv' := [some (eJ (a)), none, some (eJ (b)), none, some (eJ (v4)), none, some (eJ (v11)), none, some (eJ (v17)), none]) (st' := [eJ (v17)]) rfl rfl rfl ?_
            refine w_s (np := 99) (lv' := [some (eJ (a)), none, some (eJ (b)), none, some (eJ (v4)), none, some (eJ (v11)), none, some (eJ (v17)), none]) (st' := [eJ (v11), eJ (v17)]) rfl rfl rfl ?_
            refine b_lle (t1 := 107) (t2 := 103) rfl rfl rfl (ev_W_in (by omega) (by omega)) (ev_W_in (by omega) (by omega)) (fun g21 => ?_) (fun g21 => ?_)
            · refine w_s (np := 108) (lv' := [some (eJ (a)), none, some (eJ (b)), none, some (eJ (v4)), none, some (eJ (v11)), none, some (eJ (v17)), none]) (st' := [eI (-1)]) rfl rfl rfl ?_
              refine b_ri rfl rfl ?_
              have hx : v4 = 2 * a + b := by omega
              rw [e15] at e18
              have hr : rSg (2 * a + b) b = -1 := by
                rw [← hx]
                unfold rSg
                repeat' split
                all_goals omega
              rw [hr] at K
              exact K
            · refine w_s (np := 104) (lv' := [some (eJ (a)), none, some (eJ (b)), none, some (eJ (v4)), none, some (eJ (v11)), none, some (eJ (v17)), none]) (st' := [eI (1)]) rfl rfl rfl ?_
              refine w_go (t1 := 108) rfl rfl ?_
              refine b_ri rfl rfl ?_
              have hx : v4 = 2 * a + b := by omega
              rw [e15] at e18
              have hr : rSg (2 * a + b) b = 1 := by
                rw [← hx]
                unfold rSg
                repeat' split
                all_goals omega
              rw [hr] at K
              exact K
          · refine w_s (np := 81) (lv' := [some (eJ (a)), none, some (eJ (b)), none, some (eJ (v4)), none, some (eJ (v11)), none, some (eJ (v17)), none]) (st' := [eJ (v11)]) rfl rfl rfl ?_
            refine w_s (np := 83) (lv' := [some (eJ (a)), none, some (eJ (b)), none, some (eJ (v4)), none, some (eJ (v11)), none, some (eJ (v17)), none]) (st' := [eJ (v17), eJ (v11)]) rfl rfl rfl ?_
            refine b_lle (t1 := 91) (t2 := 87) rfl rfl rfl (ev_W_in (by omega) (by omega)) (ev_W_in (by omega) (by omega)) (fun g21 => ?_) (fun g21 => ?_)
            · refine w_s (np := 92) (lv' := [some (eJ (a)), none, some (eJ (b)), none, some (eJ (v4)), none, some (eJ (v11)), none, some (eJ (v17)), none]) (st' := [eI (-1)]) rfl rfl rfl ?_
              refine w_go (t1 := 108) rfl rfl ?_
              refine b_ri rfl rfl ?_
              have hx : v4 = 2 * a + b := by omega
              rw [e15] at e18
              have hr : rSg (2 * a + b) b = -1 := by
                rw [← hx]
                unfold rSg
                repeat' split
                all_goals omega
              rw [hr] at K
              exact K
            · refine w_s (np := 88) (lv' := [some (eJ (a)), none, some (eJ (b)), none, some (eJ (v4)), none, some (eJ (v11)), none, some (eJ (v17)), none]) (st' := [eI (1)]) rfl rfl rfl ?_
              refine w_go (t1 := 108) rfl rfl ?_
              refine b_ri rfl rfl ?_
              have hx : v4 = 2 * a + b := by omega
              rw [e15] at e18
              have hr : rSg (2 * a + b) b = 1 := by
                rw [← hx]
                unfold rSg
                repeat' split
                all_goals omega
              rw [hr] at K
              exact K
        · refine w_s (np := 55) (lv' := [some (eJ (a)), none, some (eJ (b)), none, some (eJ (v4)), none, none, none, none, none]) (st' := [eI (-1)]) rfl rfl rfl ?_
          refine b_ri rfl rfl ?_
          have hx : v4 = 2 * a + b := by omega
          have hr : rSg (2 * a + b) b = -1 := by
            rw [← hx]
            unfold rSg
            repeat' split
            all_goals omega
          rw [hr] at K
          exact K
    · refine w_s (np := 24) (lv' := [some (eJ (a)), none, some (eJ (b)), none, some (eJ (v4)), none, none, none, none, none]) (st' := [eJ (v4)]) rfl rfl rfl ?_
      refine w_s (np := 25) (lv' := [some (eJ (a)), none, some (eJ (b)), none, some (eJ (v4)), none, none, none, none, none]) (st' := [eJ (0), eJ (v4)]) rfl rfl rfl ?_
      refine b_lne (t1 := 39) (t2 := 29) rfl rfl rfl (ev_W_in (by omega) (by omega)) rfl (fun g9 => ?_) (fun g9 => ?_)
      · refine w_s (np := 40) (lv' := [some (eJ (a)), none, some (eJ (b)), none, some (eJ (v4)), none, none, none, none, none]) (st' := [eI (1)]) rfl rfl rfl ?_
        refine b_ri rfl rfl ?_
        have hx : v4 = 2 * a + b := by omega
        have hr : rSg (2 * a + b) b = 1 := by
          rw [← hx]
          unfold rSg
          repeat' split
          all_goals omega
        rw [hr] at K
        exact K
      · refine w_s (np := 30) (lv' := [some (eJ (a)), none, some (eJ (b)), none, some (eJ (v4)), none, none, none, none, none]) (st' := [eJ (b)]) rfl rfl rfl ?_
        refine w_s (np := 31) (lv' := [some (eJ (a)), none, some (eJ (b)), none, some (eJ (v4)), none, none, none, none, none]) (st' := [eJ (0), eJ (b)]) rfl rfl rfl ?_
        refine b_lne (t1 := 39) (t2 := 35) rfl rfl rfl (ev_W_in (by omega) (by omega)) rfl (fun g10 => ?_) (fun g10 => ?_)
        · refine w_s (np := 40) (lv' := [some (eJ (a)), none, some (eJ (b)), none, some (eJ (v4)), none, none, none, none, none]) (st' := [eI (1)]) rfl rfl rfl ?_
          refine b_ri rfl rfl ?_
          have hx : v4 = 2 * a + b := by omega
          have hr : rSg (2 * a + b) b = 1 := by
            rw [← hx]
            unfold rSg
            repeat' split
            all_goals omega
          rw [hr] at K
          exact K
        · refine w_s (np := 36) (lv' := [some (eJ (a)), none, some (eJ (b)), none, some (eJ (v4)), none, none, none, none, none]) (st' := [eI (0)]) rfl rfl rfl ?_
          refine w_go (t1 := 40) rfl rfl ?_
          refine b_ri rfl rfl ?_
          have hx : v4 = 2 * a + b := by omega
          have hr : rSg (2 * a + b) b = 0 := by
            rw [← hx]
            unfold rSg
            repeat' split
            all_goals omega
          rw [hr] at K
          exact K
theorem t224 {fg : eG} {rc rs d : Nat} {f : eFr} {F : List eFr} {μ : eM} {p q r s t u v w : Int} (hk : ev_kd μ 98 = some 11) (hp : -8 ≤ p ∧ p ≤ 8) (hq : -8 ≤ q ∧ q ≤ 8) (hr : -8 ≤ r ∧ r ≤ 8) (hs : -8 ≤ s ∧ s ≤ 8) (ht : -100000 ≤ t ∧ t ≤ 100000) (hu : -100000 ≤ u ∧ u ≤ 100000) (hv : -100000 ≤ v ∧ v ≤ 100000) (hw : -100000 ≤ w ∧ w ≤ 100000) (K : ∀ (μ2 : eM) (B G : Int), tS μ μ2 → B = ((((((((((p) + (q))) * (u))) + (((((0) - (q))) * (((t) + (w))))))) + (((((q) - (s))) * (((((0) - (w))) + (((v) + (w))))))))) + (((((((0) - (q))) - (r))) * (((((0) - (((v) + (w))))) + (((((u) - (w))) + (((v) + (w)))))))))) → G = ((((((((((p) + (q))) * (v))) + (((((0) - (q))) * (((u) - (w))))))) + (((((q) - (s))) * (((((t) + (w))) - (((v) + (w))))))))) + (((((((0) - (q))) - (r))) * (((((((0) - (w))) + (((v) + (w))))) - (((((u) - (w))) + (((v) + (w)))))))))) + ((((((((((p) + (q))) * (w))) + (((((0) - (q))) * (((v) + (w))))))) + (((((q) - (s))) * (((((u) - (w))) + (((v) + (w))))))))) + (((((((0) - (q))) - (r))) * (((((((t) + (w))) - (((v) + (w))))) + (((((u) - (w))) + (((v) + (w)))))))))) → (-17600000 ≤ B ∧ B ≤ 17600000) → (-43200000 ≤ G ∧ G ≤ 43200000) → ex_fine fg rc rs (d + 4, (f.1, f.2.1, f.2.2.1, eI (rSg (2 * B + G) G) :: f.2.2.2), F, μ2)) : ex_fine fg rc rs (d + 3, (224, 0, [some (eR 98), some (eJ (p)), none, some (eJ (q)), none, some (eJ (r)), none, some (eJ (s)), none, some (eJ (t)), none, some (eJ (u)), none, some (eJ (v)), none, some (eJ (w)), none], []), f :: F, μ) := by
  refine w_s (np := 1) (lv' := [some (eR 98), some (eJ (p)), none, some (eJ (q)), none, some (eJ (r)), none, some (eJ (s)), none, some (eJ (t)), none, some (eJ (u)), none, some (eJ (v)), none, some (eJ (w)), none]) (st' := [eR 98]) rfl (s_an rfl (by decide)) rfl ?_
  refine w_s (np := 2) (lv' := [some (eR 98), some (eJ (p)), none, some (eJ (q)), none, some (eJ (r)), none, some (eJ (s)), none, some (eJ (t)), none, some (eJ (u)), none, some (eJ (v)), none, some (eJ (w)), none]) (st' := [eJ (p), eR 98]) rfl rfl rfl ?_
  refine w_s (np := 3) (lv' := [some (eR 98), some (eJ (p)), none, some (eJ (q)), none, some (eJ (r)), none, some (eJ (s)), none, some (eJ (t)), none, some (eJ (u)), none, some (eJ (v)), none, some (eJ (w)), none]) (st' := [eJ (q), eJ (p), eR 98]) rfl rfl rfl ?_
  refine w_s (np := 5) (lv' := [some (eR 98), some (eJ (p)), none, some (eJ (q)), none, some (eJ (r)), none, some (eJ (s)), none, some (eJ (t)), none, some (eJ (u)), none, some (eJ (v)), none, some (eJ (w)), none]) (st' := [eJ (r), eJ (q), eJ (p), eR 98]) rfl rfl rfl ?_
  refine w_s (np := 7) (lv' := [some (eR 98), some (eJ (p)), none, some (eJ (q)), none, some (eJ (r)), none, some (eJ (s)), none, some (eJ (t)), none, some (eJ (u)), none, some (eJ (v)), none, some (eJ (w)), none]) (st' := [eJ (s), eJ (r), eJ (q), eJ (p), eR 98]) rfl rfl rfl ?_
  refine w_cv (np := 10) (as := [eJ (p), eJ (q), eJ (r), eJ (s)]) (lv' := [some (eR 98), some (eJ (p)), none, some (eJ (q)), none, some (eJ (r)), none, some (eJ (s)), none]) (rest := []) rfl rfl rfl (Nat.ble_eq.mp rfl) rfl rfl rfl hk rfl ?_
  refine t219 hk ?_
  intro m1 s2 f3 f4 f5 f6
  have k7 := tS_kd s2 hk
  show ex_fine fg rc rs (d + 3, (224, 10, [some (eR 98), some (eJ (p)), none, some (eJ (q)), none, some (eJ (r)), none, some (eJ (s)), none, some (eJ (t)), none, some (eJ (u)), none, some (eJ (v)), none, some (eJ (w)), none], []), f :: F, m1)
  refine w_s (np := 11) (lv' := [some (eR 98), some (eJ (p)), none, some (eJ (q)), none, some (eJ (r)), none, some (eJ (s)), none, some (eJ (t)), none, some (eJ (u)), none, some (eJ (v)), none, some (eJ (w)), none]) (st' := [eR 98]) rfl (s_an rfl (by decide)) rfl ?_
  refine w_s (np := 13) (lv' := [some (eR 98), some (eJ (p)), none, some (eJ (q)), none, some (eJ (r)), none, some (eJ (s)), none, some (eJ (t)), none, some (eJ (u)), none, some (eJ (v)), none, some (eJ (w)), none]) (st' := [eJ (t), eR 98]) rfl rfl rfl ?_
  refine w_s (np := 15) (lv' := [some (eR 98), some (eJ (p)), none, some (eJ (q)), none, some (eJ (r)), none, some (eJ (s)), none, some (eJ (t)), none, some (eJ (u)), none, some (eJ (v)), none, some (eJ (w)), none]) (st' := [eJ (u), eJ (t), eR 98]) rfl rfl rfl ?_
  refine w_s (np := 17) (lv' := [some (eR 98), some (eJ (p)), none, some (eJ (q)), none, some (eJ (r)), none, some (eJ (s)), none, some (eJ (t)), none, some (eJ (u)), none, some (eJ (v)), none, some (eJ (w)), none]) (st' := [eJ (v), eJ (u), eJ (t), eR 98]) rfl rfl rfl ?_
  refine w_s (np := 19) (lv' := [some (eR 98), some (eJ (p)), none, some (eJ (q)), none, some (eJ (r)), none, some (eJ (s)), none, some (eJ (t)), none, some (eJ (u)), none, some (eJ (v)), none, some (eJ (w)), none]) (st' := [eJ (w), eJ (v), eJ (u), eJ (t), eR 98]) rfl rfl rfl ?_
  refine w_cv (np := 22) (as := [eJ (t), eJ (u), eJ (v), eJ (w)]) (lv' := [some (eR 98), some (eJ (t)), none, some (eJ (u)), none, some (eJ (v)), none, some (eJ (w)), none, none, none, none, none, none, none, none, none, none, none, none, none, none, none, none, none]) (rest := []) rfl rfl rfl (Nat.ble_eq.mp rfl) rfl rfl rfl k7 rfl ?_
  refine t223 k7 f3 f4 f5 f6 hp hq hr hs ht hu hv hw ?_
  intro m A B C E s9 fA fB fC fE eB eG bB bC bE
  have k9 := tS_kd s9 k7
  have s10 := tS_tr s2 s9
  show ex_fine fg rc rs (d + 3, (224, 22, [some (eR 98), some (eJ (p)), none, some (eJ (q)), none, some (eJ (r)), none, some (eJ (s)), none, some (eJ (t)), none, some (eJ (u)), none, some (eJ (v)), none, some (eJ (w)), none], []), f :: F, m)
  refine w_s (np := 23) (lv' := [some (eR 98), some (eJ (p)), none, some (eJ (q)), none, some (eJ (r)), none, some (eJ (s)), none, some (eJ (t)), none, some (eJ (u)), none, some (eJ (v)), none, some (eJ (w)), none]) (st' := [eR 98]) rfl (s_an rfl (by decide)) rfl ?_
  refine w_gf (np := 26) (v := eJ (B)) rfl rfl k9 (by rw [fB]; rfl) ?_
  refine w_s (np := 27) (lv' := [some (eR 98), some (eJ (p)), none, some (eJ (q)), none, some (eJ (r)), none, some (eJ (s)), none, some (eJ (t)), none, some (eJ (u)), none, some (eJ (v)), none, some (eJ (w)), none]) (st' := [eR 98, eJ (B)]) rfl (s_an rfl (by decide)) rfl ?_
  refine w_gf (np := 30) (v := eJ (C)) rfl rfl k9 (by rw [fC]; rfl) ?_
  refine w_s (np := 31) (lv' := [some (eR 98), some (eJ (p)), none, some (eJ (q)), none, some (eJ (r)), none, some (eJ (s)), none, some (eJ (t)), none, some (eJ (u)), none, some (eJ (v)), none, some (eJ (w)), none]) (st' := [eR 98, eJ (C), eJ (B)]) rfl (s_an rfl (by decide)) rfl ?_
  refine w_gf (np := 34) (v := eJ (E)) rfl rfl k9 (by rw [fE]; rfl) ?_
  obtain ⟨v8, e9⟩ : ∃ v : Int, v = (C) + (E) := ⟨_, rfl⟩
  have b10 : -43200000 ≤ v8 ∧ v8 ≤ 43200000 := by omega
  refine w_s (np := 35) (lv' := [some (eR 98), some (eJ (p)), none, some (eJ (q)), none, some (eJ (r)), none, some (eJ (s)), none, some (eJ (t)), none, some (eJ (u)), none, some (eJ (v)), none, some (eJ (w)), none]) (st' := [eJ (v8), eJ (B)]) rfl (b_ladd (by rw [← e9]; exact ev_W_in (by omega) (by omega))) rfl ?_
  refine w_cs (np := 38) (as := [eJ (B), eJ (v8)]) (lv' := [some (eJ (B)), none, some (eJ (v8)), none, none, none, none, none, none, none]) (rest := []) rfl rfl rfl (Nat.ble_eq.mp rfl) rfl rfl rfl rfl ?_
  refine t222 ?_ ?_ ?_
  · omega
  · omega
  show ex_fine fg rc rs (d + 3, (224, 38, [some (eR 98), some (eJ (p)), none, some (eJ (q)), none, some (eJ (r)), none, some (eJ (s)), none, some (eJ (t)), none, some (eJ (u)), none, some (eJ (v)), none, some (eJ (w)), none], [eI (rSg (2 * B + v8) v8)]), f :: F, m)
  refine b_ri rfl rfl ?_
  exact K m B v8 s10 eB (by rw [e9]; exact eG) (bB) (b10)
