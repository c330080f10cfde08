/-! locate: the reference -/
theorem u_eq {M : Nat → Nat → Int} {r j c k : Nat} {x : Int} : ev_up M r j x c k = if c = r ∧ k = j then x else M c k := by
  unfold ev_up ev_ur ev_u1
  by_cases h1 : c = r
  · subst h1
    rw [if_pos rfl]
    by_cases h2 : k = j
    · rw [if_pos h2, if_pos ⟨rfl, h2⟩]
    · rw [if_neg h2, if_neg (fun q => h2 q.2)]
  · rw [if_neg h1, if_neg (fun q => h1 q.1)]
/-- nothing but the vector at hand has changed -/
def tS (a b : eM) : Prop := b.2 = a.2 ∧ ∀ c k : Nat, ¬ (c = 98 ∧ 2 ≤ k ∧ k ≤ 5) → b.1 c k = a.1 c k
theorem tS_r (a : eM) : tS a a := ⟨rfl, fun _ _ _ => rfl⟩
theorem tS_tr {a b c : eM} (h : tS a b) (h2 : tS b c) : tS a c := ⟨h2.1.trans h.1, fun q k hk => (h2.2 q k hk).trans (h.2 q k hk)⟩
theorem tS_kd {a b : eM} {r k : Nat} (h : tS a b) (hk : ev_kd a r = some k) : ev_kd b r = some k := by
  unfold ev_kd at hk ⊢
  rw [h.1]
  exact hk
theorem t219 {fg : eG} {rc rs d : Nat} {f : eFr} {F : List eFr} {μ : eM} {p q r s : Int} (hk : ev_kd μ 98 = some 11) (K : ∀ μ2 : eM, tS μ μ2 → μ2.1 98 2 = p → μ2.1 98 3 = q → μ2.1 98 4 = r → μ2.1 98 5 = s → ex_fine fg rc rs (d + 1, (f.1, f.2.1, f.2.2.1, f.2.2.2), F, μ2)) : ex_fine fg rc rs (d, (219, 0, [some (eR 98), some (eJ (p)), none, some (eJ (q)), none, some (eJ (r)), none, some (eJ (s)), none], []), f :: F, μ) := by
  refine w_t (np := 1) (l2 := [some (eR 98), some (eJ (p)), none, some (eJ (q)), none, some (eJ (r)), none, some (eJ (s)), none]) (s2 := [eR 98]) rfl (s_an rfl (by decide)) rfl ?_
  refine w_t (np := 2) (l2 := [some (eR 98), some (eJ (p)), none, some (eJ (q)), none, some (eJ (r)), none, some (eJ (s)), none]) (s2 := [eJ (p), eR 98]) rfl rfl rfl ?_
  refine b_pf (np := 5) (w := p) rfl rfl hk rfl ?_
  refine w_t (np := 6) (l2 := [some (eR 98), some (eJ (p)), none, some (eJ (q)), none, some (eJ (r)), none, some (eJ (s)), none]) (s2 := [eR 98]) rfl (s_an rfl (by decide)) rfl ?_
  refine w_t (np := 7) (l2 := [some (eR 98), some (eJ (p)), none, some (eJ (q)), none, some (eJ (r)), none, some (eJ (s)), none]) (s2 := [eJ (q), eR 98]) rfl rfl rfl ?_
  refine b_pf (np := 10) (w := q) rfl rfl hk rfl ?_
  refine w_t (np := 11) (l2 := [some (eR 98), some (eJ (p)), none, some (eJ (q)), none, some (eJ (r)), none, some (eJ (s)), none]) (s2 := [eR 98]) rfl (s_an rfl (by decide)) rfl ?_
  refine w_t (np := 13) (l2 := [some (eR 98), some (eJ (p)), none, some (eJ (q)), none, some (eJ (r)), none, some (eJ (s)), none]) (s2 := [eJ (r), eR 98]) rfl rfl rfl ?_
  refine b_pf (np := 16) (w := r) rfl rfl hk rfl ?_
  refine w_t (np := 17) (l2 := [some (eR 98), some (eJ (p)), none, some (eJ (q)), none, some (eJ (r)), none, some (eJ (s)), none]) (s2 := [eR 98]) rfl (s_an rfl (by decide)) rfl ?_
  refine w_t (np := 19) (l2 := [some (eR 98), some (eJ (p)), none, some (eJ (q)), none, some (eJ (r)), none, some (eJ (s)), none]) (s2 := [eJ (s), eR 98]) rfl rfl rfl ?_
  refine b_pf (np := 22) (w := s) rfl rfl hk rfl ?_
  refine v_rv rfl rfl (K _ ⟨rfl, fun c k h => ?_⟩ ?_ ?_ ?_ ?_)
  · show ev_up (ev_up (ev_up (ev_up μ.1 98 2 p) 98 3 q) 98 4 r) 98 5 s c k = μ.1 c k
    rw [u_eq, if_neg (by omega), u_eq, if_neg (by omega), u_eq, if_neg (by omega), u_eq, if_neg (by omega)]
  · show ev_up (ev_up (ev_up (ev_up μ.1 98 2 p) 98 3 q) 98 4 r) 98 5 s 98 2 = p
    rw [u_eq, if_neg (by omega), u_eq, if_neg (by omega), u_eq, if_neg (by omega), u_eq, if_pos ⟨rfl, rfl⟩]
  · show ev_up (ev_up (ev_up (ev_up μ.1 98 2 p) 98 3 q) 98 4 r) 98 5 s 98 3 = q
    rw [u_eq, if_neg (by omega), u_eq, if_neg (by omega), u_eq, if_pos ⟨rfl, rfl⟩]
  · show ev_up (ev_up (ev_up (ev_up μ.1 98 2 p) 98 3 q) 98 4 r) 98 5 s 98 4 = r
    rw [u_eq, if_neg (by omega), u_eq, if_pos ⟨rfl, rfl⟩]
  · show ev_up (ev_up (ev_up (ev_up μ.1 98 2 p) 98 3 q) 98 4 r) 98 5 s 98 5 = s
    rw [u_eq, if_pos ⟨rfl, rfl⟩]
theorem t221 {fg : eG} {rc rs d : Nat} {f : eFr} {F : List eFr} {μ : eM} {a b c e : Int} (hk : ev_kd μ 98 = some 11) (f2 : μ.1 98 2 = a) (f3 : μ.1 98 3 = b) (f4 : μ.1 98 4 = c) (f5 : μ.1 98 5 = e) (ha : -1000000 ≤ a ∧ a ≤ 1000000) (hb : -1000000 ≤ b ∧ b ≤ 1000000) (hc : -1000000 ≤ c ∧ c ≤ 1000000) (he : -1000000 ≤ e ∧ e ≤ 1000000) (K : ∀ μ2 : eM, tS μ μ2 → μ2.1 98 2 = a + b → μ2.1 98 3 = 0 - b → μ2.1 98 4 = b - e → μ2.1 98 5 = 0 - b - c → ex_fine fg rc rs (d + 2, (f.1, f.2.1, f.2.2.1, f.2.2.2), F, μ2)) : ex_fine fg rc rs (d + 1, (221, 0, [some (eR 98)], []), f :: F, μ) := by
  refine w_t (np := 1) (l2 := [some (eR 98)]) (s2 := [eR 98]) rfl (s_an rfl (by decide)) rfl ?_
  refine w_t (np := 2) (l2 := [some (eR 98)]) (s2 := [eR 98, eR 98]) rfl (s_an rfl (by decide)) rfl ?_
  refine w_gf (np := 5) (v := eJ (a)) rfl rfl hk (by rw [f2]; rfl) ?_
  refine w_t (np := 6) (l2 := [some (eR 98)]) (s2 := [eR 98, eJ (a), eR 98]) rfl (s_an rfl (by decide)) rfl ?_
  refine w_gf (np := 9) (v := eJ (b)) rfl rfl hk (by rw [f3]; rfl) ?_
  obtain ⟨v1, e2⟩ : ∃ zz : Int, zz = (a) + (b) := ⟨_, rfl⟩
  have b3 : -2000000 ≤ v1 ∧ v1 ≤ 2000000 := by omega
  refine w_t (np := 10) (l2 := [some (eR 98)]) (s2 := [eJ (v1), eR 98]) rfl (b_ladd (by rw [← e2]; exact ev_W_in (by omega) (by omega))) rfl ?_
  refine w_t (np := 11) (l2 := [some (eR 98)]) (s2 := [eJ (0), eJ (v1), eR 98]) rfl rfl rfl ?_
  refine w_t (np := 12) (l2 := [some (eR 98)]) (s2 := [eR 98, eJ (0), eJ (v1), eR 98]) rfl (s_an rfl (by decide)) rfl ?_
  refine w_gf (np := 15) (v := eJ (b)) rfl rfl hk (by rw [f3]; rfl) ?_
  obtain ⟨v4, e5⟩ : ∃ zz : Int, zz = (0) - (b) := ⟨_, rfl⟩
  have b6 : -1000000 ≤ v4 ∧ v4 ≤ 1000000 := by omega
  refine w_t (np := 16) (l2 := [some (eR 98)]) (s2 := [eJ (v4), eJ (v1), eR 98]) rfl (b_lsub (by rw [← e5]; exact ev_W_in (by omega) (by omega))) rfl ?_
  refine w_t (np := 17) (l2 := [some (eR 98)]) (s2 := [eR 98, eJ (v4), eJ (v1), eR 98]) rfl (s_an rfl (by decide)) rfl ?_
  refine w_gf (np := 20) (v := eJ (b)) rfl rfl hk (by rw [f3]; rfl) ?_
  refine w_t (np := 21) (l2 := [some (eR 98)]) (s2 := [eR 98, eJ (b), eJ (v4), eJ (v1), eR 98]) rfl (s_an rfl (by decide)) rfl ?_
  refine w_gf (np := 24) (v := eJ (e)) rfl rfl hk (by rw [f5]; rfl) ?_
  obtain ⟨v7, e8⟩ : ∃ zz : Int, zz = (b) - (e) := ⟨_, rfl⟩
  have b9 : -2000000 ≤ v7 ∧ v7 ≤ 2000000 := by omega
  refine w_t (np := 25) (l2 := [some (eR 98)]) (s2 := [eJ (v7), eJ (v4), eJ (v1), eR 98]) rfl (b_lsub (by rw [← e8]; exact ev_W_in (by omega) (by omega))) rfl ?_
  refine w_t (np := 26) (l2 := [some (eR 98)]) (s2 := [eJ (0), eJ (v7), eJ (v4), eJ (v1), eR 98]) rfl rfl rfl ?_
  refine w_t (np := 27) (l2 := [some (eR 98)]) (s2 := [eR 98, eJ (0), eJ (v7), eJ (v4), eJ (v1), eR 98]) rfl (s_an rfl (by decide)) rfl ?_
  refine w_gf (np := 30) (v := eJ (b)) rfl rfl hk (by rw [f3]; rfl) ?_
  obtain ⟨v10, e11⟩ : ∃ zz : Int, zz = (0) - (b) := ⟨_, rfl⟩
  have b12 : -1000000 ≤ v10 ∧ v10 ≤ 1000000 := by omega
  refine w_t (np := 31) (l2 := [some (eR 98)]) (s2 := [eJ (v10), eJ (v7), eJ (v4), eJ (v1), eR 98]) rfl (b_lsub (by rw [← e11]; exact ev_W_in (by omega) (by omega))) rfl ?_
  refine w_t (np := 32) (l2 := [some (eR 98)]) (s2 := [eR 98, eJ (v10), eJ (v7), eJ (v4), eJ (v1), eR 98]) rfl (s_an rfl (by decide)) rfl ?_
  refine w_gf (np := 35) (v := eJ (c)) rfl rfl hk (by rw [f4]; rfl) ?_
  obtain ⟨v13, e14⟩ : ∃ zz : Int, zz = (v10) - (c) := ⟨_, rfl⟩
  have b15 : -2000000 ≤ v13 ∧ v13 ≤ 2000000 := by omega
  refine w_t (np := 36) (l2 := [some (eR 98)]) (s2 := [eJ (v13), eJ (v7), eJ (v4), eJ (v1), eR 98]) rfl (b_lsub (by rw [← e14]; exact ev_W_in (by omega) (by omega))) rfl ?_
  refine w_cw (np := 39) (as := [eJ (v1), eJ (v4), eJ (v7), eJ (v13)]) (l2 := [some (eR 98), some (eJ (v1)), none, some (eJ (v4)), none, some (eJ (v7)), none, some (eJ (v13)), none]) (rest := []) rfl rfl rfl (Nat.ble_eq.mp rfl) rfl rfl rfl hk rfl ?_
  refine t219 hk ?_
  intro m16 s17 f18 f19 f20 f21
  have k22 := tS_kd s17 hk
  show ex_fine fg rc rs (d + 1, (221, 39, [some (eR 98)], []), f :: F, m16)
  refine v_rv rfl rfl (K _ s17 (f18.trans (by omega)) (f19.trans (by omega)) (f20.trans (by omega)) (f21.trans (by omega)))
theorem t220 {fg : eG} {rc rs d : Nat} {f : eFr} {F : List eFr} {μ : eM} {a b c e : Int} (hk : ev_kd μ 98 = some 11) (f2 : μ.1 98 2 = a) (f3 : μ.1 98 3 = b) (f4 : μ.1 98 4 = c) (f5 : μ.1 98 5 = e) (ha : -1000000 ≤ a ∧ a ≤ 1000000) (hb : -1000000 ≤ b ∧ b ≤ 1000000) (hc : -1000000 ≤ c ∧ c ≤ 1000000) (he : -1000000 ≤ e ∧ e ≤ 1000000) (K : ∀ μ2 : eM, tS μ μ2 → μ2.1 98 2 = 0 - e → μ2.1 98 3 = a + e → μ2.1 98 4 = b - e → μ2.1 98 5 = c + e → ex_fine fg rc rs (d + 2, (f.1, f.2.1, f.2.2.1, f.2.2.2), F, μ2)) : ex_fine fg rc rs (d + 1, (220, 0, [some (eR 98)], []), f :: F, μ) := by
  refine w_t (np := 1) (l2 := [some (eR 98)]) (s2 := [eR 98]) rfl (s_an rfl (by decide)) rfl ?_
  refine w_t (np := 2) (l2 := [some (eR 98)]) (s2 := [eJ (0), eR 98]) rfl rfl rfl ?_
  refine w_t (np := 3) (l2 := [some (eR 98)]) (s2 := [eR 98, eJ (0), eR 98]) rfl (s_an rfl (by decide)) rfl ?_
  refine w_gf (np := 6) (v := eJ (e)) rfl rfl hk (by rw [f5]; rfl) ?_
  obtain ⟨v1, e2⟩ : ∃ zz : Int, zz = (0) - (e) := ⟨_, rfl⟩
  have b3 : -1000000 ≤ v1 ∧ v1 ≤ 1000000 := by omega
  refine w_t (np := 7) (l2 := [some (eR 98)]) (s2 := [eJ (v1), eR 98]) rfl (b_lsub (by rw [← e2]; exact ev_W_in (by omega) (by omega))) rfl ?_
  refine w_t (np := 8) (l2 := [some (eR 98)]) (s2 := [eR 98, eJ (v1), eR 98]) rfl (s_an rfl (by decide)) rfl ?_
  refine w_gf (np := 11) (v := eJ (a)) rfl rfl hk (by rw [f2]; rfl) ?_
  refine w_t (np := 12) (l2 := [some (eR 98)]) (s2 := [eR 98, eJ (a), eJ (v1), eR 98]) rfl (s_an rfl (by decide)) rfl ?_
  refine w_gf (np := 15) (v := eJ (e)) rfl rfl hk (by rw [f5]; rfl) ?_
  obtain ⟨v4, e5⟩ : ∃ zz : Int, zz = (a) + (e) := ⟨_, rfl⟩
  have b6 : -2000000 ≤ v4 ∧ v4 ≤ 2000000 := by omega
  refine w_t (np := 16) (l2 := [some (eR 98)]) (s2 := [eJ (v4), eJ (v1), eR 98]) rfl (b_ladd (by rw [← e5]; exact ev_W_in (by omega) (by omega))) rfl ?_
  refine w_t (np := 17) (l2 := [some (eR 98)]) (s2 := [eR 98, eJ (v4), eJ (v1), eR 98]) rfl (s_an rfl (by decide)) rfl ?_
  refine w_gf (np := 20) (v := eJ (b)) rfl rfl hk (by rw [f3]; rfl) ?_
  refine w_t (np := 21) (l2 := [some (eR 98)]) (s2 := [eR 98, eJ (b), eJ (v4), eJ (v1), eR 98]) rfl (s_an rfl (by decide)) rfl ?_
  refine w_gf (np := 24) (v := eJ (e)) rfl rfl hk (by rw [f5]; rfl) ?_
  obtain ⟨v7, e8⟩ : ∃ zz : Int, zz = (b) - (e) := ⟨_, rfl⟩
  have b9 : -2000000 ≤ v7 ∧ v7 ≤ 2000000 := by omega
  refine w_t (np := 25) (l2 := [some (eR 98)]) (s2 := [eJ (v7), eJ (v4), eJ (v1), eR 98]) rfl (b_lsub (by rw [← e8]; exact ev_W_in (by omega) (by omega))) rfl ?_
  refine w_t (np := 26) (l2 := [some (eR 98)]) (s2 := [eR 98, eJ (v7), eJ (v4), eJ (v1), eR 98]) rfl (s_an rfl (by decide)) rfl ?_
  refine w_gf (np := 29) (v := eJ (c)) rfl rfl hk (by rw [f4]; rfl) ?_
  refine w_t (np := 30) (l2 := [some (eR 98)]) (s2 := [eR 98, eJ (c), eJ (v7), eJ (v4), eJ (v1), eR 98]) rfl (s_an rfl (by decide)) rfl ?_
  refine w_gf (np := 33) (v := eJ (e)) rfl rfl hk (by rw [f5]; rfl) ?_
  obtain ⟨v10, e11⟩ : ∃ zz : Int, zz = (c) + (e) := ⟨_, rfl⟩
  have b12 : -2000000 ≤ v10 ∧ v10 ≤ 2000000 := by omega
  refine w_t (np := 34) (l2 := [some (eR 98)]) (s2 := [eJ (v10), eJ (v7), eJ (v4), eJ (v1), eR 98]) rfl (b_ladd (by rw [← e11]; exact ev_W_in (by omega) (by omega))) rfl ?_
  refine w_cw (np := 37) (as := [eJ (v1), eJ (v4), eJ (v7), eJ (v10)]) (l2 := [some (eR 98), some (eJ (v1)), none, some (eJ (v4)), none, some (eJ (v7)), none, some (eJ (v10)), none]) (rest := []) rfl rfl rfl (Nat.ble_eq.mp rfl) rfl rfl rfl hk rfl ?_
  refine t219 hk ?_
  intro m13 s14 f15 f16 f17 f18
  have k19 := tS_kd s14 hk
  show ex_fine fg rc rs (d + 1, (220, 37, [some (eR 98)], []), f :: F, m13)
  refine v_rv rfl rfl (K _ s14 (f15.trans (by omega)) (f16.trans (by omega)) (f17.trans (by omega)) (f18.trans (by omega)))
theorem t223 {fg : eG} {rc rs d : Nat} {f : eFr} {F : List eFr} {μ : eM} {p q r s t u v w : Int} (hk : ev_kd μ 98 = some 11) (f2 : μ.1 98 2 = p) (f3 : μ.1 98 3 = q) (f4 : μ.1 98 4 = r) (f5 : μ.1 98 5 = s) (hp : -8 ≤ p ∧ p ≤ 8) (hq : -8 ≤ q ∧ q ≤ 8) (hr : -8 ≤ r ∧ r ≤ 8) (hs : -8 ≤ s ∧ s ≤ 8) (ht : -100000 ≤ t ∧ t ≤ 100000) (hu : -100000 ≤ u ∧ u ≤ 100000) (hv : -100000 ≤ v ∧ v ≤ 100000) (hw : -100000 ≤ w ∧ w ≤ 100000) (K : ∀ (μ2 : eM) (A B C E : Int), tS μ μ2 → μ2.1 98 2 = A → μ2.1 98 3 = B → μ2.1 98 4 = C → μ2.1 98 5 = E → B = ((((((((((p) + (q))) * (u))) + (((((0) - (q))) * (((t) + (w))))))) + (((((q) - (s))) * (((((0) - (w))) + (((v) + (w))))))))) + (((((((0) - (q))) - (r))) * (((((0) - (((v) + (w))))) + (((((u) - (w))) + (((v) + (w)))))))))) → C + E = ((((((((((p) + (q))) * (v))) + (((((0) - (q))) * (((u) - (w))))))) + (((((q) - (s))) * (((((t) + (w))) - (((v) + (w))))))))) + (((((((0) - (q))) - (r))) * (((((((0) - (w))) + (((v) + (w))))) - (((((u) - (w))) + (((v) + (w)))))))))) + ((((((((((p) + (q))) * (w))) + (((((0) - (q))) * (((v) + (w))))))) + (((((q) - (s))) * (((((u) - (w))) + (((v) + (w))))))))) + (((((((0) - (q))) - (r))) * (((((((t) + (w))) - (((v) + (w))))) + (((((u) - (w))) + (((v) + (w)))))))))) → (-17600000 ≤ B ∧ B ≤ 17600000) → (-20800000 ≤ C ∧ C ≤ 20800000) → (-22400000 ≤ E ∧ E ≤ 22400000) → ex_fine fg rc rs (d + 3, (f.1, f.2.1, f.2.2.1, f.2.2.2), F, μ2)) : ex_fine fg rc rs (d + 2, (223, 0, [some (eR 98), some (eJ (t)), none, some (eJ (u)), none, some (eJ (v)), none, some (eJ (w)), none, none, none, none, none, none, none, none, none, none, none, none, none, none, none, none, none], []), f :: F, μ) := by
  refine w_t (np := 1) (l2 := [some (eR 98), some (eJ (t)), none, some (eJ (u)), none, some (eJ (v)), none, some (eJ (w)), none, none, none, none, none, none, none, none, none, none, none, none, none, none, none, none, none]) (s2 := [eR 98]) rfl (s_an rfl (by decide)) rfl ?_
  refine w_cw (np := 4) (as := []) (l2 := [some (eR 98)]) (rest := []) rfl rfl rfl (Nat.ble_eq.mp rfl) rfl rfl rfl hk rfl ?_
  refine t221 hk f2 f3 f4 f5 (show (-1000000 : Int) ≤ p ∧ (p : Int) ≤ 1000000 by omega) (show (-1000000 : Int) ≤ q ∧ (q : Int) ≤ 1000000 by omega) (show (-1000000 : Int) ≤ r ∧ (r : Int) ≤ 1000000 by omega) (show (-1000000 : Int) ≤ s ∧ (s : Int) ≤ 1000000 by omega) ?_
  intro m1 s2 f3 f4 f5 f6
  have k7 := tS_kd s2 hk
  obtain ⟨v8, e9⟩ : ∃ zz : Int, zz = (p) + (q) := ⟨_, rfl⟩
  have b10 : -16 ≤ v8 ∧ v8 ≤ 16 := by omega
  rw [← e9] at f3
  obtain ⟨v11, e12⟩ : ∃ zz : Int, zz = (0) - (q) := ⟨_, rfl⟩
  have b13 : -8 ≤ v11 ∧ v11 ≤ 8 := by omega
  rw [← e12] at f4
  obtain ⟨v14, e15⟩ : ∃ zz : Int, zz = (q) - (s) := ⟨_, rfl⟩
  have b16 : -16 ≤ v14 ∧ v14 ≤ 16 := by omega
  rw [← e15] at f5
  obtain ⟨v17, e18⟩ : ∃ zz : Int, zz = (0) - (q) := ⟨_, rfl⟩
  have b19 : -8 ≤ v17 ∧ v17 ≤ 8 := by omega
  obtain ⟨v20, e21⟩ : ∃ zz : Int, zz = (v17) - (r) := ⟨_, rfl⟩
  have b22 : -16 ≤ v20 ∧ v20 ≤ 16 := by omega
  rw [← e18, ← e21] at f6
  show ex_fine fg rc rs (d + 2, (223, 4, [some (eR 98), some (eJ (t)), none, some (eJ (u)), none, some (eJ (v)), none, some (eJ (w)), none, none, none, none, none, none, none, none, none, none, none, none, none, none, none, none, none], []), f :: F, m1)
  refine w_t (np := 5) (l2 := [some (eR 98), some (eJ (t)), none, some (eJ (u)), none, some (eJ (v)), none, some (eJ (w)), none, none, none, none, none, none, none, none, none, none, none, none, none, none, none, none, none]) (s2 := [eR 98]) rfl (s_an rfl (by decide)) rfl ?_
  refine w_gf (np := 8) (v := eJ (v8)) rfl rfl k7 (by rw [f3]; rfl) ?_
  refine w_t (np := 10) (l2 := [some (eR 98), some (eJ (t)), none, some (eJ (u)), none, some (eJ (v)), none, some (eJ (w)), none, some (eJ (v8)), none, none, none, none, none, none, none, none, none, none, none, none, none, none, none]) (s2 := []) rfl rfl rfl ?_
  refine w_t (np := 11) (l2 := [some (eR 98), some (eJ (t)), none, some (eJ (u)), none, some (eJ (v)), none, some (eJ (w)), none, some (eJ (v8)), none, none, none, none, none, none, none, none, none, none, none, none, none, none, none]) (s2 := [eR 98]) rfl (s_an rfl (by decide)) rfl ?_
  refine w_gf (np := 14) (v := eJ (v11)) rfl rfl k7 (by rw [f4]; rfl) ?_
  refine w_t (np := 16) (l2 := [some (eR 98), some (eJ (t)), none, some (eJ (u)), none, some (eJ (v)), none, some (eJ (w)), none, some (eJ (v8)), none, some (eJ (v11)), none, none, none, none, none, none, none, none, none, none, none, none, none]) (s2 := []) rfl rfl rfl ?_
  refine w_t (np := 17) (l2 := [some (eR 98), some (eJ (t)), none, some (eJ (u)), none, some (eJ (v)), none, some (eJ (w)), none, some (eJ (v8)), none, some (eJ (v11)), none, none, none, none, none, none, none, none, none, none, none, none, none]) (s2 := [eR 98]) rfl (s_an rfl (by decide)) rfl ?_
  refine w_gf (np := 20) (v := eJ (v14)) rfl rfl k7 (by rw [f5]; rfl) ?_
  refine w_t (np := 22) (l2 := [some (eR 98), some (eJ (t)), none, some (eJ (u)), none, some (eJ (v)), none, some (eJ (w)), none, some (eJ (v8)), none, some (eJ (v11)), none, some (eJ (v14)), none, none, none, none, none, none, none, none, none, none, none]) (s2 := []) rfl rfl rfl ?_
  refine w_t (np := 23) (l2 := [some (eR 98), some (eJ (t)), none, some (eJ (u)), none, some (eJ (v)), none, some (eJ (w)), none, some (eJ (v8)), none, some (eJ (v11)), none, some (eJ (v14)), none, none, none, none, none, none, none, none, none, none, none]) (s2 := [eR 98]) rfl (s_an rfl (by decide)) rfl ?_
  refine w_gf (np := 26) (v := eJ (v20)) rfl rfl k7 (by rw [f6]; rfl) ?_
  refine w_t (np := 28) (l2 := [some (eR 98), some (eJ (t)), none, some (eJ (u)), none, some (eJ (v)), none, some (eJ (w)), none, some (eJ (v8)), none, some (eJ (v11)), none, some (eJ (v14)), none, some (eJ (v20)), none, none, none, none, none, none, none, none, none]) (s2 := []) rfl rfl rfl ?_
  refine w_t (np := 29) (l2 := [some (eR 98), some (eJ (t)), none, some (eJ (u)), none, some (eJ (v)), none, some (eJ (w)), none, some (eJ (v8)), none, some (eJ (v11)), none, some (eJ (v14)), none, some (eJ (v20)), none, none, none, none, none, none, none, none, none]) (s2 := [eR 98]) rfl (s_an rfl (by decide)) rfl ?_
  refine w_t (np := 30) (l2 := [some (eR 98), some (eJ (t)), none, some (eJ (u)), none, some (eJ (v)), none, some (eJ (w)), none, some (eJ (v8)), none, some (eJ (v11)), none, some (eJ (v14)), none, some (eJ (v20)), none, none, none, none, none, none, none, none, none]) (s2 := [eJ (t), eR 98]) rfl rfl rfl ?_
  refine w_t (np := 31) (l2 := [some (eR 98), some (eJ (t)), none, some (eJ (u)), none, some (eJ (v)), none, some (eJ (w)), none, some (eJ (v8)), none, some (eJ (v11)), none, some (eJ (v14)), none, some (eJ (v20)), none, none, none, none, none, none, none, none, none]) (s2 := [eJ (u), eJ (t), eR 98]) rfl rfl rfl ?_
  refine w_t (np := 33) (l2 := [some (eR 98), some (eJ (t)), none, some (eJ (u)), none, some (eJ (v)), none, some (eJ (w)), none, some (eJ (v8)), none, some (eJ (v11)), none, some (eJ (v14)), none, some (eJ (v20)), none, none, none, none, none, none, none, none, none]) (s2 := [eJ (v), eJ (u), eJ (t), eR 98]) rfl rfl rfl ?_
  refine w_t (np := 35) (l2 := [some (eR 98), some (eJ (t)), none, some (eJ (u)), none, some (eJ (v)), none, some (eJ (w)), none, some (eJ (v8)), none, some (eJ (v11)), none, some (eJ (v14)), none, some (eJ (v20)), none, none, none, none, none, none, none, none, none]) (s2 := [eJ (w), eJ (v), eJ (u), eJ (t), eR 98]) rfl rfl rfl ?_
  refine w_cw (np := 38) (as := [eJ (t), eJ (u), eJ (v), eJ (w)]) (l2 := [some (eR 98), some (eJ (t)), none, some (eJ (u)), none, some (eJ (v)), none, some (eJ (w)), none]) (rest := []) rfl rfl rfl (Nat.ble_eq.mp rfl) rfl rfl rfl k7 rfl ?_
  refine t219 k7 ?_
  intro m23 s24 f25 f26 f27 f28
  have k29 := tS_kd s24 k7
  have s30 := tS_tr s2 s24
  show ex_fine fg rc rs (d + 2, (223, 38, [some (eR 98), some (eJ (t)), none, some (eJ (u)), none, some (eJ (v)), none, some (eJ (w)), none, some (eJ (v8)), none, some (eJ (v11)), none, some (eJ (v14)), none, some (eJ (v20)), none, none, none, none, none, none, none, none, none], []), f :: F, m23)
  refine w_t (np := 40) (l2 := [some (eR 98), some (eJ (t)), none, some (eJ (u)), none, some (eJ (v)), none, some (eJ (w)), none, some (eJ (v8)), none, some (eJ (v11)), none, some (eJ (v14)), none, some (eJ (v20)), none, none, none, none, none, none, none, none, none]) (s2 := [eJ (v8)]) rfl rfl rfl ?_
  refine w_t (np := 41) (l2 := [some (eR 98), some (eJ (t)), none, some (eJ (u)), none, some (eJ (v)), none, some (eJ (w)), none, some (eJ (v8)), none, some (eJ (v11)), none, some (eJ (v14)), none, some (eJ (v20)), none, none, none, none, none, none, none, none, none]) (s2 := [eR 98, eJ (v8)]) rfl (s_an rfl (by decide)) rfl ?_
  refine w_gf (np := 44) (v := eJ (t)) rfl rfl k29 (by rw [f25]; rfl) ?_
  obtain ⟨v31, e32⟩ : ∃ zz : Int, zz = (v8) * (t) := ⟨_, rfl⟩
  have b33 : -1600000 ≤ v31 ∧ v31 ≤ 1600000 := by
    have hm := i_mulb (a := v8) (b := t) (A := 16) (B := 100000) (by omega) (by omega)
    rw [e32]
    omega
  refine w_t (np := 45) (l2 := [some (eR 98), some (eJ (t)), none, some (eJ (u)), none, some (eJ (v)), none, some (eJ (w)), none, some (eJ (v8)), none, some (eJ (v11)), none, some (eJ (v14)), none, some (eJ (v20)), none, none, none, none, none, none, none, none, none]) (s2 := [eJ (v31)]) rfl (b_lmul (by rw [← e32]; exact ev_W_in (by omega) (by omega))) rfl ?_
  refine w_t (np := 47) (l2 := [some (eR 98), some (eJ (t)), none, some (eJ (u)), none, some (eJ (v)), none, some (eJ (w)), none, some (eJ (v8)), none, some (eJ (v11)), none, some (eJ (v14)), none, some (eJ (v20)), none, some (eJ (v31)), none, none, none, none, none, none, none]) (s2 := []) rfl rfl rfl ?_
  refine w_t (np := 49) (l2 := [some (eR 98), some (eJ (t)), none, some (eJ (u)), none, some (eJ (v)), none, some (eJ (w)), none, some (eJ (v8)), none, some (eJ (v11)), none, some (eJ (v14)), none, some (eJ (v20)), none, some (eJ (v31)), none, none, none, none, none, none, none]) (s2 := [eJ (v8)]) rfl rfl rfl ?_
  refine w_t (np := 50) (l2 := [some (eR 98), some (eJ (t)), none, some (eJ (u)), none, some (eJ (v)), none, some (eJ (w)), none, some (eJ (v8)), none, some (eJ (v11)), none, some (eJ (v14)), none, some (eJ (v20)), none, some (eJ (v31)), none, none, none, none, none, none, none]) (s2 := [eR 98, eJ (v8)]) rfl (s_an rfl (by decide)) rfl ?_
  refine w_gf (np := 53) (v := eJ (u)) rfl rfl k29 (by rw [f26]; rfl) ?_
  obtain ⟨v34, e35⟩ : ∃ zz : Int, zz = (v8) * (u) := ⟨_, rfl⟩
  have b36 : -1600000 ≤ v34 ∧ v34 ≤ 1600000 := by
    have hm := i_mulb (a := v8) (b := u) (A := 16) (B := 100000) (by omega) (by omega)
    rw [e35]
    omega
  refine w_t (np := 54) (l2 := [some (eR 98), some (eJ (t)), none, some (eJ (u)), none, some (eJ (v)), none, some (eJ (w)), none, some (eJ (v8)), none, some (eJ (v11)), none, some (eJ (v14)), none, some (eJ (v20)), none, some (eJ (v31)), none, none, none, none, none, none, none]) (s2 := [eJ (v34)]) rfl (b_lmul (by rw [← e35]; exact ev_W_in (by omega) (by omega))) rfl ?_
  refine w_t (np := 56) (l2 := [some (eR 98), some (eJ (t)), none, some (eJ (u)), none, some (eJ (v)), none, some (eJ (w)), none, some (eJ (v8)), none, some (eJ (v11)), none, some (eJ (v14)), none, some (eJ (v20)), none, some (eJ (v31)), none, some (eJ (v34)), none, none, none, none, none]) (s2 := []) rfl rfl rfl ?_
  refine w_t (np := 58) (l2 := [some (eR 98), some (eJ (t)), none, some (eJ (u)), none, some (eJ (v)), none, some (eJ (w)), none, some (eJ (v8)), none, some (eJ (v11)), none, some (eJ (v14)), none, some (eJ (v20)), none, some (eJ (v31)), none, some (eJ (v34)), none, none, none, none, none]) (s2 := [eJ (v8)]) rfl rfl rfl ?_
  refine w_t (np := 59) (l2 := [some (eR 98), some (eJ (t)), none, some (eJ (u)), none, some (eJ (v)), none, some (eJ (w)), none, some (eJ (v8)), none, some (eJ (v11)), none, some (eJ (v14)), none, some (eJ (v20)), none, some (eJ (v31)), none, some (eJ (v34)), none, none, none, none, none]) (s2 := [eR 98, eJ (v8)]) rfl (s_an rfl (by decide)) rfl ?_
  refine w_gf (np := 62) (v := eJ (v)) rfl rfl k29 (by rw [f27]; rfl) ?_
  obtain ⟨v37, e38⟩ : ∃ zz : Int, zz = (v8) * (v) := ⟨_, rfl⟩
  have b39 : -1600000 ≤ v37 ∧ v37 ≤ 1600000 := by
    have hm := i_mulb (a := v8) (b := v) (A := 16) (B := 100000) (by omega) (by omega)
    rw [e38]
    omega
  refine w_t (np := 63) (l2 := [some (eR 98), some (eJ (t)), none, some (eJ (u)), none, some (eJ (v)), none, some (eJ (w)), none, some (eJ (v8)), none, some (eJ (v11)), none, some (eJ (v14)), none, some (eJ (v20)), none, some (eJ (v31)), none, some (eJ (v34)), none, none, none, none, none]) (s2 := [eJ (v37)]) rfl (b_lmul (by rw [← e38]; exact ev_W_in (by omega) (by omega))) rfl ?_
  refine w_t (np := 65) (l2 := [some (eR 98), some (eJ (t)), none, some (eJ (u)), none, some (eJ (v)), none, some (eJ (w)), none, some (eJ (v8)), none, some (eJ (v11)), none, some (eJ (v14)), none, some (eJ (v20)), none, some (eJ (v31)), none, some (eJ (v34)), none, some (eJ (v37)), none, none, none]) (s2 := []) rfl rfl rfl ?_
  refine w_t (np := 67) (l2 := [some (eR 98), some (eJ (t)), none, some (eJ (u)), none, some (eJ (v)), none, some (eJ (w)), none, some (eJ (v8)), none, some (eJ (v11)), none, some (eJ (v14)), none, some (eJ (v20)), none, some (eJ (v31)), none, some (eJ (v34)), none, some (eJ (v37)), none, none, none]) (s2 := [eJ (v8)]) rfl rfl rfl ?_
  refine w_t (np := 68) (l2 := [some (eR 98), some (eJ (t)), none, some (eJ (u)), none, some (eJ (v)), none, some (eJ (w)), none, some (eJ (v8)), none, some (eJ (v11)), none, some (eJ (v14)), none, some (eJ (v20)), none, some (eJ (v31)), none, some (eJ (v34)), none, some (eJ (v37)), none, none, none]) (s2 := [eR 98, eJ (v8)]) rfl (s_an rfl (by decide)) rfl ?_
  refine w_gf (np := 71) (v := eJ (w)) rfl rfl k29 (by rw [f28]; rfl) ?_
  obtain ⟨v40, e41⟩ : ∃ zz : Int, zz = (v8) * (w) := ⟨_, rfl⟩
  have b42 : -1600000 ≤ v40 ∧ v40 ≤ 1600000 := by
    have hm := i_mulb (a := v8) (b := w) (A := 16) (B := 100000) (by omega) (by omega)
    rw [e41]
    omega
  refine w_t (np := 72) (l2 := [some (eR 98), some (eJ (t)), none, some (eJ (u)), none, some (eJ (v)), none, some (eJ (w)), none, some (eJ (v8)), none, some (eJ (v11)), none, some (eJ (v14)), none, some (eJ (v20)), none, some (eJ (v31)), none, some (eJ (v34)), none, some (eJ (v37)), none, none, none]) (s2 := [eJ (v40)]) rfl (b_lmul (by rw [← e41]; exact ev_W_in (by omega) (by omega))) rfl ?_
  refine w_t (np := 74) (l2 := [some (eR 98), some (eJ (t)), none, some (eJ (u)), none, some (eJ (v)), none, some (eJ (w)), none, some (eJ (v8)), none, some (eJ (v11)), none, some (eJ (v14)), none, some (eJ (v20)), none, some (eJ (v31)), none, some (eJ (v34)), none, some (eJ (v37)), none, some (eJ (v40)), none]) (s2 := []) rfl rfl rfl ?_
  refine w_t (np := 75) (l2 := [some (eR 98), some (eJ (t)), none, some (eJ (u)), none, some (eJ (v)), none, some (eJ (w)), none, some (eJ (v8)), none, some (eJ (v11)), none, some (eJ (v14)), none, some (eJ (v20)), none, some (eJ (v31)), none, some (eJ (v34)), none, some (eJ (v37)), none, some (eJ (v40)), none]) (s2 := [eR 98]) rfl (s_an rfl (by decide)) rfl ?_
  refine w_cw (np := 78) (as := []) (l2 := [some (eR 98)]) (rest := []) rfl rfl rfl (Nat.ble_eq.mp rfl) rfl rfl rfl k29 rfl ?_
  refine t220 k29 f25 f26 f27 f28 (show (-1000000 : Int) ≤ t ∧ (t : Int) ≤ 1000000 by omega) (show (-1000000 : Int) ≤ u ∧ (u : Int) ≤ 1000000 by omega) (show (-1000000 : Int) ≤ v ∧ (v : Int) ≤ 1000000 by omega) (show (-1000000 : Int) ≤ w ∧ (w : Int) ≤ 1000000 by omega) ?_
  intro m43 s44 f45 f46 f47 f48
  have k49 := tS_kd s44 k29
  have s50 := tS_tr s30 s44
  obtain ⟨v51, e52⟩ : ∃ zz : Int, zz = (0) - (w) := ⟨_, rfl⟩
  have b53 : -100000 ≤ v51 ∧ v51 ≤ 100000 := by omega
  rw [← e52] at f45
  obtain ⟨v54, e55⟩ : ∃ zz : Int, zz = (t) + (w) := ⟨_, rfl⟩
  have b56 : -200000 ≤ v54 ∧ v54 ≤ 200000 := by omega
  rw [← e55] at f46
  obtain ⟨v57, e58⟩ : ∃ zz : Int, zz = (u) - (w) := ⟨_, rfl⟩
  have b59 : -200000 ≤ v57 ∧ v57 ≤ 200000 := by omega
  rw [← e58] at f47
  obtain ⟨v60, e61⟩ : ∃ zz : Int, zz = (v) + (w) := ⟨_, rfl⟩
  have b62 : -200000 ≤ v60 ∧ v60 ≤ 200000 := by omega
  rw [← e61] at f48
  show ex_fine fg rc rs (d + 2, (223, 78, [some (eR 98), some (eJ (t)), none, some (eJ (u)), none, some (eJ (v)), none, some (eJ (w)), none, some (eJ (v8)), none, some (eJ (v11)), none, some (eJ (v14)), none, some (eJ (v20)), none, some (eJ (v31)), none, some (eJ (v34)), none, some (eJ (v37)), none, some (eJ (v40)), none], []), f :: F, m43)
  refine w_t (np := 80) (l2 := [some (eR 98), some (eJ (t)), none, some (eJ (u)), none, some (eJ (v)), none, some (eJ (w)), none, some (eJ (v8)), none, some (eJ (v11)), none, some (eJ (v14)), none, some (eJ (v20)), none, some (eJ (v31)), none, some (eJ (v34)), none, some (eJ (v37)), none, some (eJ (v40)), none]) (s2 := [eJ (v31)]) rfl rfl rfl ?_
  refine w_t (np := 82) (l2 := [some (eR 98), some (eJ (t)), none, some (eJ (u)), none, some (eJ (v)), none, some (eJ (w)), none, some (eJ (v8)), none, some (eJ (v11)), none, some (eJ (v14)), none, some (eJ (v20)), none, some (eJ (v31)), none, some (eJ (v34)), none, some (eJ (v37)), none, some (eJ (v40)), none]) (s2 := [eJ (v11), eJ (v31)]) rfl rfl rfl ?_
  refine w_t (np := 83) (l2 := [some (eR 98), some (eJ (t)), none, some (eJ (u)), none, some (eJ (v)), none, some (eJ (w)), none, some (eJ (v8)), none, some (eJ (v11)), none, some (eJ (v14)), none, some (eJ (v20)), none, some (eJ (v31)), none, some (eJ (v34)), none, some (eJ (v37)), none, some (eJ (v40)), none]) (s2 := [eR 98, eJ (v11), eJ (v31)]) rfl (s_an rfl (by decide)) rfl ?_
  refine w_gf (np := 86) (v := eJ (v51)) rfl rfl k49 (by rw [f45]; rfl) ?_
  obtain ⟨v63, e64⟩ : ∃ zz : Int, zz = (v11) * (v51) := ⟨_, rfl⟩
  have b65 : -800000 ≤ v63 ∧ v63 ≤ 800000 := by
    have hm := i_mulb (a := v11) (b := v51) (A := 8) (B := 100000) (by omega) (by omega)
    rw [e64]
    omega
  refine w_t (np := 87) (l2 := [some (eR 98), some (eJ (t)), none, some (eJ (u)), none, some (eJ (v)), none, some (eJ (w)), none, some (eJ (v8)), none, some (eJ (v11)), none, some (eJ (v14)), none, some (eJ (v20)), none, some (eJ (v31)), none, some (eJ (v34)), none, some (eJ (v37)), none, some (eJ (v40)), none]) (s2 := [eJ (v63), eJ (v31)]) rfl (b_lmul (by rw [← e64]; exact ev_W_in (by omega) (by omega))) rfl ?_
  obtain ⟨v66, e67⟩ : ∃ zz : Int, zz = (v31) + (v63) := ⟨_, rfl⟩
  have b68 : -2400000 ≤ v66 ∧ v66 ≤ 2400000 := by omega
  refine w_t (np := 88) (l2 := [some (eR 98), some (eJ (t)), none, some (eJ (u)), none, some (eJ (v)), none, some (eJ (w)), none, some (eJ (v8)), none, some (eJ (v11)), none, some (eJ (v14)), none, some (eJ (v20)), none, some (eJ (v31)), none, some (eJ (v34)), none, some (eJ (v37)), none, some (eJ (v40)), none]) (s2 := [eJ (v66)]) rfl (b_ladd (by rw [← e67]; exact ev_W_in (by omega) (by omega))) rfl ?_
  refine w_t (np := 90) (l2 := [some (eR 98), some (eJ (t)), none, some (eJ (u)), none, some (eJ (v)), none, some (eJ (w)), none, some (eJ (v8)), none, some (eJ (v11)), none, some (eJ (v14)), none, some (eJ (v20)), none, some (eJ (v66)), none, some (eJ (v34)), none, some (eJ (v37)), none, some (eJ (v40)), none]) (s2 := []) rfl rfl rfl ?_
  refine w_t (np := 92) (l2 := [some (eR 98), some (eJ (t)), none, some (eJ (u)), none, some (eJ (v)), none, some (eJ (w)), none, some (eJ (v8)), none, some (eJ (v11)), none, some (eJ (v14)), none, some (eJ (v20)), none, some (eJ (v66)), none, some (eJ (v34)), none, some (eJ (v37)), none, some (eJ (v40)), none]) (s2 := [eJ (v34)]) rfl rfl rfl ?_
  refine w_t (np := 94) (l2 := [some (eR 98), some (eJ (t)), none, some (eJ (u)), none, some (eJ (v)), none, some (eJ (w)), none, some (eJ (v8)), none, some (eJ (v11)), none, some (eJ (v14)), none, some (eJ (v20)), none, some (eJ (v66)), none, some (eJ (v34)), none, some (eJ (v37)), none, some (eJ (v40)), none]) (s2 := [eJ (v11), eJ (v34)]) rfl rfl rfl ?_
  refine w_t (np := 95) (l2 := [some (eR 98), some (eJ (t)), none, some (eJ (u)), none, some (eJ (v)), none, some (eJ (w)), none, some (eJ (v8)), none, some (eJ (v11)), none, some (eJ (v14)), none, some (eJ (v20)), none, some (eJ (v66)), none, some (eJ (v34)), none, some (eJ (v37)), none, some (eJ (v40)), none]) (s2 := [eR 98, eJ (v11), eJ (v34)]) rfl (s_an rfl (by decide)) rfl ?_
  refine w_gf (np := 98) (v := eJ (v54)) rfl rfl k49 (by rw [f46]; rfl) ?_
  obtain ⟨v69, e70⟩ : ∃ zz : Int, zz = (v11) * (v54) := ⟨_, rfl⟩
  have b71 : -1600000 ≤ v69 ∧ v69 ≤ 1600000 := by
    have hm := i_mulb (a := v11) (b := v54) (A := 8) (B := 200000) (by omega) (by omega)
    rw [e70]
    omega
  refine w_t (np := 99) (l2 := [some (eR 98), some (eJ (t)), none, some (eJ (u)), none, some (eJ (v)), none, some (eJ (w)), none, some (eJ (v8)), none, some (eJ (v11)), none, some (eJ (v14)), none, some (eJ (v20)), none, some (eJ (v66)), none, some (eJ (v34)), none, some (eJ (v37)), none, some (eJ (v40)), none]) (s2 := [eJ (v69), eJ (v34)]) rfl (b_lmul (by rw [← e70]; exact ev_W_in (by omega) (by omega))) rfl ?_
  obtain ⟨v72, e73⟩ : ∃ zz : Int, zz = (v34) + (v69) := ⟨_, rfl⟩
  have b74 : -3200000 ≤ v72 ∧ v72 ≤ 3200000 := by omega
  refine w_t (np := 100) (l2 := [some (eR 98), some (eJ (t)), none, some (eJ (u)), none, some (eJ (v)), none, some (eJ (w)), none, some (eJ (v8)), none, some (eJ (v11)), none, some (eJ (v14)), none, some (eJ (v20)), none, some (eJ (v66)), none, some (eJ (v34)), none, some (eJ (v37)), none, some (eJ (v40)), none]) (s2 := [eJ (v72)]) rfl (b_ladd (by rw [← e73]; exact ev_W_in (by omega) (by omega))) rfl ?_
  refine w_t (np := 102) (l2 := [some (eR 98), some (eJ (t)), none, some (eJ (u)), none, some (eJ (v)), none, some (eJ (w)), none, some (eJ (v8)), none, some (eJ (v11)), none, some (eJ (v14)), none, some (eJ (v20)), none, some (eJ (v66)), none, some (eJ (v72)), none, some (eJ (v37)), none, some (eJ (v40)), none]) (s2 := []) rfl rfl rfl ?_
  refine w_t (np := 104) (l2 := [some (eR 98), some (eJ (t)), none, some (eJ (u)), none, some (eJ (v)), none, some (eJ (w)), none, some (eJ (v8)), none, some (eJ (v11)), none, some (eJ (v14)), none, some (eJ (v20)), none, some (eJ (v66)), none, some (eJ (v72)), none, some (eJ (v37)), none, some (eJ (v40)), none]) (s2 := [eJ (v37)]) rfl rfl rfl ?_
  refine w_t (np := 106) (l2 := [some (eR 98), some (eJ (t)), none, some (eJ (u)), none, some (eJ (v)), none, some (eJ (w)), none, some (eJ (v8)), none, some (eJ (v11)), none, some (eJ (v14)), none, some (eJ (v20)), none, some (eJ (v66)), none, some (eJ (v72)), none, some (eJ (v37)), none, some (eJ (v40)), none]) (s2 := [eJ (v11), eJ (v37)]) rfl rfl rfl ?_
  refine w_t (np := 107) (l2 := [some (eR 98), some (eJ (t)), none, some (eJ (u)), none, some (eJ (v)), none, some (eJ (w)), none, some (eJ (v8)), none, some (eJ (v11)), none, some (eJ (v14)), none, some (eJ (v20)), none, some (eJ (v66)), none, some (eJ (v72)), none, some (eJ (v37)), none, some (eJ (v40)), none]) (s2 := [eR 98, eJ (v11), eJ (v37)]) rfl (s_an rfl (by decide)) rfl ?_
  refine w_gf (np := 110) (v := eJ (v57)) rfl rfl k49 (by rw [f47]; rfl) ?_
  obtain ⟨v75, e76⟩ : ∃ zz : Int, zz = (v11) * (v57) := ⟨_, rfl⟩
  have b77 : -1600000 ≤ v75 ∧ v75 ≤ 1600000 := by
    have hm := i_mulb (a := v11) (b := v57) (A := 8) (B := 200000) (by omega) (by omega)
    rw [e76]
    omega
  refine w_t (np := 111) (l2 := [some (eR 98), some (eJ (t)), none, some (eJ (u)), none, some (eJ (v)), none, some (eJ (w)), none, some (eJ (v8)), none, some (eJ (v11)), none, some (eJ (v14)), none, some (eJ (v20)), none, some (eJ (v66)), none, some (eJ (v72)), none, some (eJ (v37)), none, some (eJ (v40)), none]) (s2 := [eJ (v75), eJ (v37)]) rfl (b_lmul (by rw [← e76]; exact ev_W_in (by omega) (by omega))) rfl ?_
  obtain ⟨v78, e79⟩ : ∃ zz : Int, zz = (v37) + (v75) := ⟨_, rfl⟩
  have b80 : -3200000 ≤ v78 ∧ v78 ≤ 3200000 := by omega
  refine w_t (np := 112) (l2 := [some (eR 98), some (eJ (t)), none, some (eJ (u)), none, some (eJ (v)), none, some (eJ (w)), none, some (eJ (v8)), none, some (eJ (v11)), none, some (eJ (v14)), none, some (eJ (v20)), none, some (eJ (v66)), none, some (eJ (v72)), none, some (eJ (v37)), none, some (eJ (v40)), none]) (s2 := [eJ (v78)]) rfl (b_ladd (by rw [← e79]; exact ev_W_in (by omega) (by omega))) rfl ?_
  refine w_t (np := 114) (l2 := [some (eR 98), some (eJ (t)), none, some (eJ (u)), none, some (eJ (v)), none, some (eJ (w)), none, some (eJ (v8)), none, some (eJ (v11)), none, some (eJ (v14)), none, some (eJ (v20)), none, some (eJ (v66)), none, some (eJ (v72)), none, some (eJ (v78)), none, some (eJ (v40)), none]) (s2 := []) rfl rfl rfl ?_
  refine w_t (np := 116) (l2 := [some (eR 98), some (eJ (t)), none, some (eJ (u)), none, some (eJ (v)), none, some (eJ (w)), none, some (eJ (v8)), none, some (eJ (v11)), none, some (eJ (v14)), none, some (eJ (v20)), none, some (eJ (v66)), none, some (eJ (v72)), none, some (eJ (v78)), none, some (eJ (v40)), none]) (s2 := [eJ (v40)]) rfl rfl rfl ?_
  refine w_t (np := 118) (l2 := [some (eR 98), some (eJ (t)), none, some (eJ (u)), none, some (eJ (v)), none, some (eJ (w)), none, some (eJ (v8)), none, some (eJ (v11)), none, some (eJ (v14)), none, some (eJ (v20)), none, some (eJ (v66)), none, some (eJ (v72)), none, some (eJ (v78)), none, some (eJ (v40)), none]) (s2 := [eJ (v11), eJ (v40)]) rfl rfl rfl ?_
  refine w_t (np := 119) (l2 := [some (eR 98), some (eJ (t)), none, some (eJ (u)), none, some (eJ (v)), none, some (eJ (w)), none, some (eJ (v8)), none, some (eJ (v11)), none, some (eJ (v14)), none, some (eJ (v20)), none, some (eJ (v66)), none, some (eJ (v72)), none, some (eJ (v78)), none, some (eJ (v40)), none]) (s2 := [eR 98, eJ (v11), eJ (v40)]) rfl (s_an rfl (by decide)) rfl ?_
  refine w_gf (np := 122) (v := eJ (v60)) rfl rfl k49 (by rw [f48]; rfl) ?_
  obtain ⟨v81, e82⟩ : ∃ zz : Int, zz = (v11) * (v60) := ⟨_, rfl⟩
  have b83 : -1600000 ≤ v81 ∧ v81 ≤ 1600000 := by
    have hm := i_mulb (a := v11) (b := v60) (A := 8) (B := 200000) (by omega) (by omega)
    rw [e82]
    omega
  refine w_t (np := 123) (l2 := [some (eR 98), some (eJ (t)), none, some (eJ (u)), none, some (eJ (v)), none, some (eJ (w)), none, some (eJ (v8)), none, some (eJ (v11)), none, some (eJ (v14)), none, some (eJ (v20)), none, some (eJ (v66)), none, some (eJ (v72)), none, some (eJ (v78)), none, some (eJ (v40)), none]) (s2 := [eJ (v81), eJ (v40)]) rfl (b_lmul (by rw [← e82]; exact ev_W_in (by omega) (by omega))) rfl ?_
  obtain ⟨v84, e85⟩ : ∃ zz : Int, zz = (v40) + (v81) := ⟨_, rfl⟩
  have b86 : -3200000 ≤ v84 ∧ v84 ≤ 3200000 := by omega
  refine w_t (np := 124) (l2 := [some (eR 98), some (eJ (t)), none, some (eJ (u)), none, some (eJ (v)), none, some (eJ (w)), none, some (eJ (v8)), none, some (eJ (v11)), none, some (eJ (v14)), none, some (eJ (v20)), none, some (eJ (v66)), none, some (eJ (v72)), none, some (eJ (v78)), none, some (eJ (v40)), none]) (s2 := [eJ (v84)]) rfl (b_ladd (by rw [← e85]; exact ev_W_in (by omega) (by omega))) rfl ?_
  refine w_t (np := 126) (l2 := [some (eR 98), some (eJ (t)), none, some (eJ (u)), none, some (eJ (v)), none, some (eJ (w)), none, some (eJ (v8)), none, some (eJ (v11)), none, some (eJ (v14)), none, some (eJ (v20)), none, some (eJ (v66)), none, some (eJ (v72)), none, some (eJ (v78)), none, some (eJ (v84)), none]) (s2 := []) rfl rfl rfl ?_
  refine w_t (np := 127) (l2 := [some (eR 98), some (eJ (t)), none, some (eJ (u)), none, some (eJ (v)), none, some (eJ (w)), none, some (eJ (v8)), none, some (eJ (v11)), none, some (eJ (v14)), none, some (eJ (v20)), none, some (eJ (v66)), none, some (eJ (v72)), none, some (eJ (v78)), none, some (eJ (v84)), none]) (s2 := [eR 98]) rfl (s_an rfl (by decide)) rfl ?_
  refine w_cw (np := 130) (as := []) (l2 := [some (eR 98)]) (rest := []) rfl rfl rfl (Nat.ble_eq.mp rfl) rfl rfl rfl k49 rfl ?_
  refine t220 k49 f45 f46 f47 f48 (show (-1000000 : Int) ≤ v51 ∧ (v51 : Int) ≤ 1000000 by omega) (show (-1000000 : Int) ≤ v54 ∧ (v54 : Int) ≤ 1000000 by omega) (show (-1000000 : Int) ≤ v57 ∧ (v57 : Int) ≤ 1000000 by omega) (show (-1000000 : Int) ≤ v60 ∧ (v60 : Int) ≤ 1000000 by omega) ?_
  intro m87 s88 f89 f90 f91 f92
  have k93 := tS_kd s88 k49
  have s94 := tS_tr s50 s88
  obtain ⟨v95, e96⟩ : ∃ zz : Int, zz = (0) - (v60) := ⟨_, rfl⟩
  have b97 : -200000 ≤ v95 ∧ v95 ≤ 200000 := by omega
  rw [← e96] at f89
  obtain ⟨v98, e99⟩ : ∃ zz : Int, zz = (v51) + (v60) := ⟨_, rfl⟩
  have b100 : -300000 ≤ v98 ∧ v98 ≤ 300000 := by omega
  rw [← e99] at f90
  obtain ⟨v101, e102⟩ : ∃ zz : Int, zz = (v54) - (v60) := ⟨_, rfl⟩
  have b103 : -400000 ≤ v101 ∧ v101 ≤ 400000 := by omega
  rw [← e102] at f91
  obtain ⟨v104, e105⟩ : ∃ zz : Int, zz = (v57) + (v60) := ⟨_, rfl⟩
  have b106 : -400000 ≤ v104 ∧ v104 ≤ 400000 := by omega
  rw [← e105] at f92
  show ex_fine fg rc rs (d + 2, (223, 130, [some (eR 98), some (eJ (t)), none, some (eJ (u)), none, some (eJ (v)), none, some (eJ (w)), none, some (eJ (v8)), none, some (eJ (v11)), none, some (eJ (v14)), none, some (eJ (v20)), none, some (eJ (v66)), none, some (eJ (v72)), none, some (eJ (v78)), none, some (eJ (v84)), none], []), f :: F, m87)
  refine w_t (np := 132) (l2 := [some (eR 98), some (eJ (t)), none, some (eJ (u)), none, some (eJ (v)), none, some (eJ (w)), none, some (eJ (v8)), none, some (eJ (v11)), none, some (eJ (v14)), none, some (eJ (v20)), none, some (eJ (v66)), none, some (eJ (v72)), none, some (eJ (v78)), none, some (eJ (v84)), none]) (s2 := [eJ (v66)]) rfl rfl rfl ?_
  refine w_t (np := 134) (l2 := [some (eR 98), some (eJ (t)), none, some (eJ (u)), none, some (eJ (v)), none, some (eJ (w)), none, some (eJ (v8)), none, some (eJ (v11)), none, some (eJ (v14)), none, some (eJ (v20)), none, some (eJ (v66)), none, some (eJ (v72)), none, some (eJ (v78)), none, some (eJ (v84)), none]) (s2 := [eJ (v14), eJ (v66)]) rfl rfl rfl ?_
  refine w_t (np := 135) (l2 := [some (eR 98), some (eJ (t)), none, some (eJ (u)), none, some (eJ (v)), none, some (eJ (w)), none, some (eJ (v8)), none, some (eJ (v11)), none, some (eJ (v14)), none, some (eJ (v20)), none, some (eJ (v66)), none, some (eJ (v72)), none, some (eJ (v78)), none, some (eJ (v84)), none]) (s2 := [eR 98, eJ (v14), eJ (v66)]) rfl (s_an rfl (by decide)) rfl ?_
  refine w_gf (np := 138) (v := eJ (v95)) rfl rfl k93 (by rw [f89]; rfl) ?_
  obtain ⟨v107, e108⟩ : ∃ zz : Int, zz = (v14) * (v95) := ⟨_, rfl⟩
  have b109 : -3200000 ≤ v107 ∧ v107 ≤ 3200000 := by
    have hm := i_mulb (a := v14) (b := v95) (A := 16) (B := 200000) (by omega) (by omega)
    rw [e108]
    omega
  refine w_t (np := 139) (l2 := [some (eR 98), some (eJ (t)), none, some (eJ (u)), none, some (eJ (v)), none, some (eJ (w)), none, some (eJ (v8)), none, some (eJ (v11)), none, some (eJ (v14)), none, some (eJ (v20)), none, some (eJ (v66)), none, some (eJ (v72)), none, some (eJ (v78)), none, some (eJ (v84)), none]) (s2 := [eJ (v107), eJ (v66)]) rfl (b_lmul (by rw [← e108]; exact ev_W_in (by omega) (by omega))) rfl ?_
  obtain ⟨v110, e111⟩ : ∃ zz : Int, zz = (v66) + (v107) := ⟨_, rfl⟩
  have b112 : -5600000 ≤ v110 ∧ v110 ≤ 5600000 := by omega
  refine w_t (np := 140) (l2 := [some (eR 98), some (eJ (t)), none, some (eJ (u)), none, some (eJ (v)), none, some (eJ (w)), none, some (eJ (v8)), none, some (eJ (v11)), none, some (eJ (v14)), none, some (eJ (v20)), none, some (eJ (v66)), none, some (eJ (v72)), none, some (eJ (v78)), none, some (eJ (v84)), none]) (s2 := [eJ (v110)]) rfl (b_ladd (by rw [← e111]; exact ev_W_in (by omega) (by omega))) rfl ?_
  refine w_t (np := 142) (l2 := [some (eR 98), some (eJ (t)), none, some (eJ (u)), none, some (eJ (v)), none, some (eJ (w)), none, some (eJ (v8)), none, some (eJ (v11)), none, some (eJ (v14)), none, some (eJ (v20)), none, some (eJ (v110)), none, some (eJ (v72)), none, some (eJ (v78)), none, some (eJ (v84)), none]) (s2 := []) rfl rfl rfl ?_
  refine w_t (np := 144) (l2 := [some (eR 98), some (eJ (t)), none, some (eJ (u)), none, some (eJ (v)), none, some (eJ (w)), none, some (eJ (v8)), none, some (eJ (v11)), none, some (eJ (v14)), none, some (eJ (v20)), none, some (eJ (v110)), none, some (eJ (v72)), none, some (eJ (v78)), none, some (eJ (v84)), none]) (s2 := [eJ (v72)]) rfl rfl rfl ?_
  refine w_t (np := 146) (l2 := [some (eR 98), some (eJ (t)), none, some (eJ (u)), none, some (eJ (v)), none, some (eJ (w)), none, some (eJ (v8)), none, some (eJ (v11)), none, some (eJ (v14)), none, some (eJ (v20)), none, some (eJ (v110)), none, some (eJ (v72)), none, some (eJ (v78)), none, some (eJ (v84)), none]) (s2 := [eJ (v14), eJ (v72)]) rfl rfl rfl ?_
  refine w_t (np := 147) (l2 := [some (eR 98), some (eJ (t)), none, some (eJ (u)), none, some (eJ (v)), none, some (eJ (w)), none, some (eJ (v8)), none, some (eJ (v11)), none, some (eJ (v14)), none, some (eJ (v20)), none, some (eJ (v110)), none, some (eJ (v72)), none, some (eJ (v78)), none, some (eJ (v84)), none]) (s2 := [eR 98, eJ (v14), eJ (v72)]) rfl (s_an rfl (by decide)) rfl ?_
  refine w_gf (np := 150) (v := eJ (v98)) rfl rfl k93 (by rw [f90]; rfl) ?_
  obtain ⟨v113, e114⟩ : ∃ zz : Int, zz = (v14) * (v98) := ⟨_, rfl⟩
  have b115 : -4800000 ≤ v113 ∧ v113 ≤ 4800000 := by
    have hm := i_mulb (a := v14) (b := v98) (A := 16) (B := 300000) (by omega) (by omega)
    rw [e114]
    omega
  refine w_t (np := 151) (l2 := [some (eR 98), some (eJ (t)), none, some (eJ (u)), none, some (eJ (v)), none, some (eJ (w)), none, some (eJ (v8)), none, some (eJ (v11)), none, some (eJ (v14)), none, some (eJ (v20)), none, some (eJ (v110)), none, some (eJ (v72)), none, some (eJ (v78)), none, some (eJ (v84)), none]) (s2 := [eJ (v113), eJ (v72)]) rfl (b_lmul (by rw [← e114]; exact ev_W_in (by omega) (by omega))) rfl ?_
  obtain ⟨v116, e117⟩ : ∃ zz : Int, zz = (v72) + (v113) := ⟨_, rfl⟩
  have b118 : -8000000 ≤ v116 ∧ v116 ≤ 8000000 := by omega
  refine w_t (np := 152) (l2 := [some (eR 98), some (eJ (t)), none, some (eJ (u)), none, some (eJ (v)), none, some (eJ (w)), none, some (eJ (v8)), none, some (eJ (v11)), none, some (eJ (v14)), none, some (eJ (v20)), none, some (eJ (v110)), none, some (eJ (v72)), none, some (eJ (v78)), none, some (eJ (v84)), none]) (s2 := [eJ (v116)]) rfl (b_ladd (by rw [← e117]; exact ev_W_in (by omega) (by omega))) rfl ?_
  refine w_t (np := 154) (l2 := [some (eR 98), some (eJ (t)), none, some (eJ (u)), none, some (eJ (v)), none, some (eJ (w)), none, some (eJ (v8)), none, some (eJ (v11)), none, some (eJ (v14)), none, some (eJ (v20)), none, some (eJ (v110)), none, some (eJ (v116)), none, some (eJ (v78)), none, some (eJ (v84)), none]) (s2 := []) rfl rfl rfl ?_
  refine w_t (np := 156) (l2 := [some (eR 98), some (eJ (t)), none, some (eJ (u)), none, some (eJ (v)), none, some (eJ (w)), none, some (eJ (v8)), none, some (eJ (v11)), none, some (eJ (v14)), none, some (eJ (v20)), none, some (eJ (v110)), none, some (eJ (v116)), none, some (eJ (v78)), none, some (eJ (v84)), none]) (s2 := [eJ (v78)]) rfl rfl rfl ?_
  refine w_t (np := 158) (l2 := [some (eR 98), some (eJ (t)), none, some (eJ (u)), none, some (eJ (v)), none, some (eJ (w)), none, some (eJ (v8)), none, some (eJ (v11)), none, some (eJ (v14)), none, some (eJ (v20)), none, some (eJ (v110)), none, some (eJ (v116)), none, some (eJ (v78)), none, some (eJ (v84)), none]) (s2 := [eJ (v14), eJ (v78)]) rfl rfl rfl ?_
  refine w_t (np := 159) (l2 := [some (eR 98), some (eJ (t)), none, some (eJ (u)), none, some (eJ (v)), none, some (eJ (w)), none, some (eJ (v8)), none, some (eJ (v11)), none, some (eJ (v14)), none, some (eJ (v20)), none, some (eJ (v110)), none, some (eJ (v116)), none, some (eJ (v78)), none, some (eJ (v84)), none]) (s2 := [eR 98, eJ (v14), eJ (v78)]) rfl (s_an rfl (by decide)) rfl ?_
  refine w_gf (np := 162) (v := eJ (v101)) rfl rfl k93 (by rw [f91]; rfl) ?_
  obtain ⟨v119, e120⟩ : ∃ zz : Int, zz = (v14) * (v101) := ⟨_, rfl⟩
  have b121 : -6400000 ≤ v119 ∧ v119 ≤ 6400000 := by
    have hm := i_mulb (a := v14) (b := v101) (A := 16) (B := 400000) (by omega) (by omega)
    rw [e120]
    omega
  refine w_t (np := 163) (l2 := [some (eR 98), some (eJ (t)), none, some (eJ (u)), none, some (eJ (v)), none, some (eJ (w)), none, some (eJ (v8)), none, some (eJ (v11)), none, some (eJ (v14)), none, some (eJ (v20)), none, some (eJ (v110)), none, some (eJ (v116)), none, some (eJ (v78)), none, some (eJ (v84)), none]) (s2 := [eJ (v119), eJ (v78)]) rfl (b_lmul (by rw [← e120]; exact ev_W_in (by omega) (by omega))) rfl ?_
  obtain ⟨v122, e123⟩ : ∃ zz : Int, zz = (v78) + (v119) := ⟨_, rfl⟩
  have b124 : -9600000 ≤ v122 ∧ v122 ≤ 9600000 := by omega
  refine w_t (np := 164) (l2 := [some (eR 98), some (eJ (t)), none, some (eJ (u)), none, some (eJ (v)), none, some (eJ (w)), none, some (eJ (v8)), none, some (eJ (v11)), none, some (eJ (v14)), none, some (eJ (v20)), none, some (eJ (v110)), none, some (eJ (v116)), none, some (eJ (v78)), none, some (eJ (v84)), none]) (s2 := [eJ (v122)]) rfl (b_ladd (by rw [← e123]; exact ev_W_in (by omega) (by omega))) rfl ?_
  refine w_t (np := 166) (l2 := [some (eR 98), some (eJ (t)), none, some (eJ (u)), none, some (eJ (v)), none, some (eJ (w)), none, some (eJ (v8)), none, some (eJ (v11)), none, some (eJ (v14)), none, some (eJ (v20)), none, some (eJ (v110)), none, some (eJ (v116)), none, some (eJ (v122)), none, some (eJ (v84)), none]) (s2 := []) rfl rfl rfl ?_
  refine w_t (np := 168) (l2 := [some (eR 98), some (eJ (t)), none, some (eJ (u)), none, some (eJ (v)), none, some (eJ (w)), none, some (eJ (v8)), none, some (eJ (v11)), none, some (eJ (v14)), none, some (eJ (v20)), none, some (eJ (v110)), none, some (eJ (v116)), none, some (eJ (v122)), none, some (eJ (v84)), none]) (s2 := [eJ (v84)]) rfl rfl rfl ?_
  refine w_t (np := 170) (l2 := [some (eR 98), some (eJ (t)), none, some (eJ (u)), none, some (eJ (v)), none, some (eJ (w)), none, some (eJ (v8)), none, some (eJ (v11)), none, some (eJ (v14)), none, some (eJ (v20)), none, some (eJ (v110)), none, some (eJ (v116)), none, some (eJ (v122)), none, some (eJ (v84)), none]) (s2 := [eJ (v14), eJ (v84)]) rfl rfl rfl ?_
  refine w_t (np := 171) (l2 := [some (eR 98), some (eJ (t)), none, some (eJ (u)), none, some (eJ (v)), none, some (eJ (w)), none, some (eJ (v8)), none, some (eJ (v11)), none, some (eJ (v14)), none, some (eJ (v20)), none, some (eJ (v110)), none, some (eJ (v116)), none, some (eJ (v122)), none, some (eJ (v84)), none]) (s2 := [eR 98, eJ (v14), eJ (v84)]) rfl (s_an rfl (by decide)) rfl ?_
  refine w_gf (np := 174) (v := eJ (v104)) rfl rfl k93 (by rw [f92]; rfl) ?_
  obtain ⟨v125, e126⟩ : ∃ zz : Int, zz = (v14) * (v104) := ⟨_, rfl⟩
  have b127 : -6400000 ≤ v125 ∧ v125 ≤ 6400000 := by
    have hm := i_mulb (a := v14) (b := v104) (A := 16) (B := 400000) (by omega) (by omega)
    rw [e126]
    omega
  refine w_t (np := 175) (l2 := [some (eR 98), some (eJ (t)), none, some (eJ (u)), none, some (eJ (v)), none, some (eJ (w)), none, some (eJ (v8)), none, some (eJ (v11)), none, some (eJ (v14)), none, some (eJ (v20)), none, some (eJ (v110)), none, some (eJ (v116)), none, some (eJ (v122)), none, some (eJ (v84)), none]) (s2 := [eJ (v125), eJ (v84)]) rfl (b_lmul (by rw [← e126]; exact ev_W_in (by omega) (by omega))) rfl ?_
  obtain ⟨v128, e129⟩ : ∃ zz : Int, zz = (v84) + (v125) := ⟨_, rfl⟩
  have b130 : -9600000 ≤ v128 ∧ v128 ≤ 9600000 := by omega
  refine w_t (np := 176) (l2 := [some (eR 98), some (eJ (t)), none, some (eJ (u)), none, some (eJ (v)), none, some (eJ (w)), none, some (eJ (v8)), none, some (eJ (v11)), none, some (eJ (v14)), none, some (eJ (v20)), none, some (eJ (v110)), none, some (eJ (v116)), none, some (eJ (v122)), none, some (eJ (v84)), none]) (s2 := [eJ (v128)]) rfl (b_ladd (by rw [← e129]; exact ev_W_in (by omega) (by omega))) rfl ?_
  refine w_t (np := 178) (l2 := [some (eR 98), some (eJ (t)), none, some (eJ (u)), none, some (eJ (v)), none, some (eJ (w)), none, some (eJ (v8)), none, some (eJ (v11)), none, some (eJ (v14)), none, some (eJ (v20)), none, some (eJ (v110)), none, some (eJ (v116)), none, some (eJ (v122)), none, some (eJ (v128)), none]) (s2 := []) rfl rfl rfl ?_
  refine w_t (np := 179) (l2 := [some (eR 98), some (eJ (t)), none, some (eJ (u)), none, some (eJ (v)), none, some (eJ (w)), none, some (eJ (v8)), none, some (eJ (v11)), none, some (eJ (v14)), none, some (eJ (v20)), none, some (eJ (v110)), none, some (eJ (v116)), none, some (eJ (v122)), none, some (eJ (v128)), none]) (s2 := [eR 98]) rfl (s_an rfl (by decide)) rfl ?_
  refine w_cw (np := 182) (as := []) (l2 := [some (eR 98)]) (rest := []) rfl rfl rfl (Nat.ble_eq.mp rfl) rfl rfl rfl k93 rfl ?_
  refine t220 k93 f89 f90 f91 f92 (show (-1000000 : Int) ≤ v95 ∧ (v95 : Int) ≤ 1000000 by omega) (show (-1000000 : Int) ≤ v98 ∧ (v98 : Int) ≤ 1000000 by omega) (show (-1000000 : Int) ≤ v101 ∧ (v101 : Int) ≤ 1000000 by omega) (show (-1000000 : Int) ≤ v104 ∧ (v104 : Int) ≤ 1000000 by omega) ?_
  intro m131 s132 f133 f134 f135 f136
  have k137 := tS_kd s132 k93
  have s138 := tS_tr s94 s132
  obtain ⟨v139, e140⟩ : ∃ zz : Int, zz = (0) - (v104) := ⟨_, rfl⟩
  have b141 : -400000 ≤ v139 ∧ v139 ≤ 400000 := by omega
  rw [← e140] at f133
  obtain ⟨v142, e143⟩ : ∃ zz : Int, zz = (v95) + (v104) := ⟨_, rfl⟩
  have b144 : -600000 ≤ v142 ∧ v142 ≤ 600000 := by omega
  rw [← e143] at f134
  obtain ⟨v145, e146⟩ : ∃ zz : Int, zz = (v98) - (v104) := ⟨_, rfl⟩
  have b147 : -700000 ≤ v145 ∧ v145 ≤ 700000 := by omega
  rw [← e146] at f135
  obtain ⟨v148, e149⟩ : ∃ zz : Int, zz = (v101) + (v104) := ⟨_, rfl⟩
  have b150 : -800000 ≤ v148 ∧ v148 ≤ 800000 := by omega
  rw [← e149] at f136
  show ex_fine fg rc rs (d + 2, (223, 182, [some (eR 98), some (eJ (t)), none, some (eJ (u)), none, some (eJ (v)), none, some (eJ (w)), none, some (eJ (v8)), none, some (eJ (v11)), none, some (eJ (v14)), none, some (eJ (v20)), none, some (eJ (v110)), none, some (eJ (v116)), none, some (eJ (v122)), none, some (eJ (v128)), none], []), f :: F, m131)
  refine w_t (np := 183) (l2 := [some (eR 98), some (eJ (t)), none, some (eJ (u)), none, some (eJ (v)), none, some (eJ (w)), none, some (eJ (v8)), none, some (eJ (v11)), none, some (eJ (v14)), none, some (eJ (v20)), none, some (eJ (v110)), none, some (eJ (v116)), none, some (eJ (v122)), none, some (eJ (v128)), none]) (s2 := [eR 98]) rfl (s_an rfl (by decide)) rfl ?_
  refine w_t (np := 185) (l2 := [some (eR 98), some (eJ (t)), none, some (eJ (u)), none, some (eJ (v)), none, some (eJ (w)), none, some (eJ (v8)), none, some (eJ (v11)), none, some (eJ (v14)), none, some (eJ (v20)), none, some (eJ (v110)), none, some (eJ (v116)), none, some (eJ (v122)), none, some (eJ (v128)), none]) (s2 := [eJ (v110), eR 98]) rfl rfl rfl ?_
  refine w_t (np := 187) (l2 := [some (eR 98), some (eJ (t)), none, some (eJ (u)), none, some (eJ (v)), none, some (eJ (w)), none, some (eJ (v8)), none, some (eJ (v11)), none, some (eJ (v14)), none, some (eJ (v20)), none, some (eJ (v110)), none, some (eJ (v116)), none, some (eJ (v122)), none, some (eJ (v128)), none]) (s2 := [eJ (v20), eJ (v110), eR 98]) rfl rfl rfl ?_
  refine w_t (np := 188) (l2 := [some (eR 98), some (eJ (t)), none, some (eJ (u)), none, some (eJ (v)), none, some (eJ (w)), none, some (eJ (v8)), none, some (eJ (v11)), none, some (eJ (v14)), none, some (eJ (v20)), none, some (eJ (v110)), none, some (eJ (v116)), none, some (eJ (v122)), none, some (eJ (v128)), none]) (s2 := [eR 98, eJ (v20), eJ (v110), eR 98]) rfl (s_an rfl (by decide)) rfl ?_
  refine w_gf (np := 191) (v := eJ (v139)) rfl rfl k137 (by rw [f133]; rfl) ?_
  obtain ⟨v151, e152⟩ : ∃ zz : Int, zz = (v20) * (v139) := ⟨_, rfl⟩
  have b153 : -6400000 ≤ v151 ∧ v151 ≤ 6400000 := by
    have hm := i_mulb (a := v20) (b := v139) (A := 16) (B := 400000) (by omega) (by omega)
    rw [e152]
    omega
  refine w_t (np := 192) (l2 := [some (eR 98), some (eJ (t)), none, some (eJ (u)), none, some (eJ (v)), none, some (eJ (w)), none, some (eJ (v8)), none, some (eJ (v11)), none, some (eJ (v14)), none, some (eJ (v20)), none, some (eJ (v110)), none, some (eJ (v116)), none, some (eJ (v122)), none, some (eJ (v128)), none]) (s2 := [eJ (v151), eJ (v110), eR 98]) rfl (b_lmul (by rw [← e152]; exact ev_W_in (by omega) (by omega))) rfl ?_
  obtain ⟨v154, e155⟩ : ∃ zz : Int, zz = (v110) + (v151) := ⟨_, rfl⟩
  have b156 : -12000000 ≤ v154 ∧ v154 ≤ 12000000 := by omega
  refine w_t (np := 193) (l2 := [some (eR 98), some (eJ (t)), none, some (eJ (u)), none, some (eJ (v)), none, some (eJ (w)), none, some (eJ (v8)), none, some (eJ (v11)), none, some (eJ (v14)), none, some (eJ (v20)), none, some (eJ (v110)), none, some (eJ (v116)), none, some (eJ (v122)), none, some (eJ (v128)), none]) (s2 := [eJ (v154), eR 98]) rfl (b_ladd (by rw [← e155]; exact ev_W_in (by omega) (by omega))) rfl ?_
  refine w_t (np := 195) (l2 := [some (eR 98), some (eJ (t)), none, some (eJ (u)), none, some (eJ (v)), none, some (eJ (w)), none, some (eJ (v8)), none, some (eJ (v11)), none, some (eJ (v14)), none, some (eJ (v20)), none, some (eJ (v110)), none, some (eJ (v116)), none, some (eJ (v122)), none, some (eJ (v128)), none]) (s2 := [eJ (v116), eJ (v154), eR 98]) rfl rfl rfl ?_
  refine w_t (np := 197) (l2 := [some (eR 98), some (eJ (t)), none, some (eJ (u)), none, some (eJ (v)), none, some (eJ (w)), none, some (eJ (v8)), none, some (eJ (v11)), none, some (eJ (v14)), none, some (eJ (v20)), none, some (eJ (v110)), none, some (eJ (v116)), none, some (eJ (v122)), none, some (eJ (v128)), none]) (s2 := [eJ (v20), eJ (v116), eJ (v154), eR 98]) rfl rfl rfl ?_
  refine w_t (np := 198) (l2 := [some (eR 98), some (eJ (t)), none, some (eJ (u)), none, some (eJ (v)), none, some (eJ (w)), none, some (eJ (v8)), none, some (eJ (v11)), none, some (eJ (v14)), none, some (eJ (v20)), none, some (eJ (v110)), none, some (eJ (v116)), none, some (eJ (v122)), none, some (eJ (v128)), none]) (s2 := [eR 98, eJ (v20), eJ (v116), eJ (v154), eR 98]) rfl (s_an rfl (by decide)) rfl ?_
  refine w_gf (np := 201) (v := eJ (v142)) rfl rfl k137 (by rw [f134]; rfl) ?_
  obtain ⟨v157, e158⟩ : ∃ zz : Int, zz = (v20) * (v142) := ⟨_, rfl⟩
  have b159 : -9600000 ≤ v157 ∧ v157 ≤ 9600000 := by
    have hm := i_mulb (a := v20) (b := v142) (A := 16) (B := 600000) (by omega) (by omega)
    rw [e158]
    omega
  refine w_t (np := 202) (l2 := [some (eR 98), some (eJ (t)), none, some (eJ (u)), none, some (eJ (v)), none, some (eJ (w)), none, some (eJ (v8)), none, some (eJ (v11)), none, some (eJ (v14)), none, some (eJ (v20)), none, some (eJ (v110)), none, some (eJ (v116)), none, some (eJ (v122)), none, some (eJ (v128)), none]) (s2 := [eJ (v157), eJ (v116), eJ (v154), eR 98]) rfl (b_lmul (by rw [← e158]; exact ev_W_in (by omega) (by omega))) rfl ?_
  obtain ⟨v160, e161⟩ : ∃ zz : Int, zz = (v116) + (v157) := ⟨_, rfl⟩
  have b162 : -17600000 ≤ v160 ∧ v160 ≤ 17600000 := by omega
  refine w_t (np := 203) (l2 := [some (eR 98), some (eJ (t)), none, some (eJ (u)), none, some (eJ (v)), none, some (eJ (w)), none, some (eJ (v8)), none, some (eJ (v11)), none, some (eJ (v14)), none, some (eJ (v20)), none, some (eJ (v110)), none, some (eJ (v116)), none, some (eJ (v122)), none, some (eJ (v128)), none]) (s2 := [eJ (v160), eJ (v154), eR 98]) rfl (b_ladd (by rw [← e161]; exact ev_W_in (by omega) (by omega))) rfl ?_
  refine w_t (np := 205) (l2 := [some (eR 98), some (eJ (t)), none, some (eJ (u)), none, some (eJ (v)), none, some (eJ (w)), none, some (eJ (v8)), none, some (eJ (v11)), none, some (eJ (v14)), none, some (eJ (v20)), none, some (eJ (v110)), none, some (eJ (v116)), none, some (eJ (v122)), none, some (eJ (v128)), none]) (s2 := [eJ (v122), eJ (v160), eJ (v154), eR 98]) rfl rfl rfl ?_
  refine w_t (np := 207) (l2 := [some (eR 98), some (eJ (t)), none, some (eJ (u)), none, some (eJ (v)), none, some (eJ (w)), none, some (eJ (v8)), none, some (eJ (v11)), none, some (eJ (v14)), none, some (eJ (v20)), none, some (eJ (v110)), none, some (eJ (v116)), none, some (eJ (v122)), none, some (eJ (v128)), none]) (s2 := [eJ (v20), eJ (v122), eJ (v160), eJ (v154), eR 98]) rfl rfl rfl ?_
  refine w_t (np := 208) (l2 := [some (eR 98), some (eJ (t)), none, some (eJ (u)), none, some (eJ (v)), none, some (eJ (w)), none, some (eJ (v8)), none, some (eJ (v11)), none, some (eJ (v14)), none, some (eJ (v20)), none, some (eJ (v110)), none, some (eJ (v116)), none, some (eJ (v122)), none, some (eJ (v128)), none]) (s2 := [eR 98, eJ (v20), eJ (v122), eJ (v160), eJ (v154), eR 98]) rfl (s_an rfl (by decide)) rfl ?_
  refine w_gf (np := 211) (v := eJ (v145)) rfl rfl k137 (by rw [f135]; rfl) ?_
  obtain ⟨v163, e164⟩ : ∃ zz : Int, zz = (v20) * (v145) := ⟨_, rfl⟩
  have b165 : -11200000 ≤ v163 ∧ v163 ≤ 11200000 := by
    have hm := i_mulb (a := v20) (b := v145) (A := 16) (B := 700000) (by omega) (by omega)
    rw [e164]
    omega
  refine w_t (np := 212) (l2 := [some (eR 98), some (eJ (t)), none, some (eJ (u)), none, some (eJ (v)), none, some (eJ (w)), none, some (eJ (v8)), none, some (eJ (v11)), none, some (eJ (v14)), none, some (eJ (v20)), none, some (eJ (v110)), none, some (eJ (v116)), none, some (eJ (v122)), none, some (eJ (v128)), none]) (s2 := [eJ (v163), eJ (v122), eJ (v160), eJ (v154), eR 98]) rfl (b_lmul (by rw [← e164]; exact ev_W_in (by omega) (by omega))) rfl ?_
  obtain ⟨v166, e167⟩ : ∃ zz : Int, zz = (v122) + (v163) := ⟨_, rfl⟩
  have b168 : -20800000 ≤ v166 ∧ v166 ≤ 20800000 := by omega
  refine w_t (np := 213) (l2 := [some (eR 98), some (eJ (t)), none, some (eJ (u)), none, some (eJ (v)), none, some (eJ (w)), none, some (eJ (v8)), none, some (eJ (v11)), none, some (eJ (v14)), none, some (eJ (v20)), none, some (eJ (v110)), none, some (eJ (v116)), none, some (eJ (v122)), none, some (eJ (v128)), none]) (s2 := [eJ (v166), eJ (v160), eJ (v154), eR 98]) rfl (b_ladd (by rw [← e167]; exact ev_W_in (by omega) (by omega))) rfl ?_
  refine w_t (np := 215) (l2 := [some (eR 98), some (eJ (t)), none, some (eJ (u)), none, some (eJ (v)), none, some (eJ (w)), none, some (eJ (v8)), none, some (eJ (v11)), none, some (eJ (v14)), none, some (eJ (v20)), none, some (eJ (v110)), none, some (eJ (v116)), none, some (eJ (v122)), none, some (eJ (v128)), none]) (s2 := [eJ (v128), eJ (v166), eJ (v160), eJ (v154), eR 98]) rfl rfl rfl ?_
  refine w_t (np := 217) (l2 := [some (eR 98), some (eJ (t)), none, some (eJ (u)), none, some (eJ (v)), none, some (eJ (w)), none, some (eJ (v8)), none, some (eJ (v11)), none, some (eJ (v14)), none, some (eJ (v20)), none, some (eJ (v110)), none, some (eJ (v116)), none, some (eJ (v122)), none, some (eJ (v128)), none]) (s2 := [eJ (v20), eJ (v128), eJ (v166), eJ (v160), eJ (v154), eR 98]) rfl rfl rfl ?_
  refine w_t (np := 218) (l2 := [some (eR 98), some (eJ (t)), none, some (eJ (u)), none, some (eJ (v)), none, some (eJ (w)), none, some (eJ (v8)), none, some (eJ (v11)), none, some (eJ (v14)), none, some (eJ (v20)), none, some (eJ (v110)), none, some (eJ (v116)), none, some (eJ (v122)), none, some (eJ (v128)), none]) (s2 := [eR 98, eJ (v20), eJ (v128), eJ (v166), eJ (v160), eJ (v154), eR 98]) rfl (s_an rfl (by decide)) rfl ?_
  refine w_gf (np := 221) (v := eJ (v148)) rfl rfl k137 (by rw [f136]; rfl) ?_
  obtain ⟨v169, e170⟩ : ∃ zz : Int, zz = (v20) * (v148) := ⟨_, rfl⟩
  have b171 : -12800000 ≤ v169 ∧ v169 ≤ 12800000 := by
    have hm := i_mulb (a := v20) (b := v148) (A := 16) (B := 800000) (by omega) (by omega)
    rw [e170]
    omega
  refine w_t (np := 222) (l2 := [some (eR 98), some (eJ (t)), none, some (eJ (u)), none, some (eJ (v)), none, some (eJ (w)), none, some (eJ (v8)), none, some (eJ (v11)), none, some (eJ (v14)), none, some (eJ (v20)), none, some (eJ (v110)), none, some (eJ (v116)), none, some (eJ (v122)), none, some (eJ (v128)), none]) (s2 := [eJ (v169), eJ (v128), eJ (v166), eJ (v160), eJ (v154), eR 98]) rfl (b_lmul (by rw [← e170]; exact ev_W_in (by omega) (by omega))) rfl ?_
  obtain ⟨v172, e173⟩ : ∃ zz : Int, zz = (v128) + (v169) := ⟨_, rfl⟩
  have b174 : -22400000 ≤ v172 ∧ v172 ≤ 22400000 := by omega
  refine w_t (np := 223) (l2 := [some (eR 98), some (eJ (t)), none, some (eJ (u)), none, some (eJ (v)), none, some (eJ (w)), none, some (eJ (v8)), none, some (eJ (v11)), none, some (eJ (v14)), none, some (eJ (v20)), none, some (eJ (v110)), none, some (eJ (v116)), none, some (eJ (v122)), none, some (eJ (v128)), none]) (s2 := [eJ (v172), eJ (v166), eJ (v160), eJ (v154), eR 98]) rfl (b_ladd (by rw [← e173]; exact ev_W_in (by omega) (by omega))) rfl ?_
  refine w_cw (np := 226) (as := [eJ (v154), eJ (v160), eJ (v166), eJ (v172)]) (l2 := [some (eR 98), some (eJ (v154)), none, some (eJ (v160)), none, some (eJ (v166)), none, some (eJ (v172)), none]) (rest := []) rfl rfl rfl (Nat.ble_eq.mp rfl) rfl rfl rfl k137 rfl ?_
  refine t219 k137 ?_
  intro m175 s176 f177 f178 f179 f180
  have k181 := tS_kd s176 k137
  have s182 := tS_tr s138 s176
  show ex_fine fg rc rs (d + 2, (223, 226, [some (eR 98), some (eJ (t)), none, some (eJ (u)), none, some (eJ (v)), none, some (eJ (w)), none, some (eJ (v8)), none, some (eJ (v11)), none, some (eJ (v14)), none, some (eJ (v20)), none, some (eJ (v110)), none, some (eJ (v116)), none, some (eJ (v122)), none, some (eJ (v128)), none], []), f :: F, m175)
  refine v_rv rfl rfl (K _ _ _ _ _ s182 f177 f178 f179 f180 ?_ ?_ b162 b168 b174)
  · subst e173; subst e170; subst e167; subst e164; subst e161; subst e158; subst e155; subst e152; subst e149; subst e146; subst e143; subst e140; subst e129; subst e126; subst e123; subst e120; subst e117; subst e114; subst e111; subst e108; subst e105; subst e102; subst e99; subst e96; subst e85; subst e82; subst e79; subst e76; subst e73; subst e70; subst e67; subst e64; subst e61; subst e58; subst e55; subst e52; subst e41; subst e38; subst e35; subst e32; subst e21; subst e18; subst e15; subst e12; subst e9; rfl
  · subst e173; subst e170; subst e167; subst e164; subst e161; subst e158; subst e155; subst e152; subst e149; subst e146; subst e143; subst e140; subst e129; subst e126; subst e123; subst e120; subst e117; subst e114; subst e111; subst e108; subst e105; subst e102; subst e99; subst e96; subst e85; subst e82; subst e79; subst e76; subst e73; subst e70; subst e67; subst e64; subst e61; subst e58; subst e55; subst e52; subst e41; subst e38; subst e35; subst e32; subst e21; subst e18; subst e15; subst e12; subst e9; rfl
theorem t222 {fg : eG} {rc rs d : Nat} {f : eFr} {F : List eFr} {μ : eM} {a b : Int} (ha : -50000000 ≤ a ∧ a ≤ 50000000) (hb : -50000000 ≤ b ∧ b ≤ 50000000) (K : ex_fine fg rc rs (d + 1, (f.1, f.2.1, f.2.2.1, eI (rSg (2 * a + b) b) :: f.2.2.2), F, μ)) : ex_fine fg rc rs (d, (222, 0, [some (eJ (a)), none, some (eJ (b)), none, none, none, none, none, none, none], []), f :: F, μ) := by
  refine v_l2 (np := 3) (c := 2) rfl rfl (by decide) ?_
  rw [show zJ 2 = 2 by decide]
  refine w_t (np := 4) (l2 := [some (eJ (a)), none, some (eJ (b)), none, none, none, none, none, none, none]) (s2 := [eJ (a), eJ (2)]) rfl rfl rfl ?_
  obtain ⟨v1, e2⟩ : ∃ zz : Int, zz = (2) * (a) := ⟨_, rfl⟩
  have b3 : -100000000 ≤ v1 ∧ v1 ≤ 100000000 := by omega
  refine w_t (np := 5) (l2 := [some (eJ (a)), none, some (eJ (b)), none, none, none, none, none, none, none]) (s2 := [eJ (v1)]) rfl (b_lmul (by rw [← e2]; exact ev_W_in (by omega) (by omega))) rfl ?_
  refine w_t (np := 6) (l2 := [some (eJ (a)), none, some (eJ (b)), none, none, none, none, none, none, none]) (s2 := [eJ (b), eJ (v1)]) rfl rfl rfl ?_
  obtain ⟨v4, e5⟩ : ∃ zz : Int, zz = (v1) + (b) := ⟨_, rfl⟩
  have b6 : -150000000 ≤ v4 ∧ v4 ≤ 150000000 := by omega
  refine w_t (np := 7) (l2 := [some (eJ (a)), none, some (eJ (b)), none, none, none, none, none, none, none]) (s2 := [eJ (v4)]) rfl (b_ladd (by rw [← e5]; exact ev_W_in (by omega) (by omega))) rfl ?_
  refine w_t (np := 9) (l2 := [some (eJ (a)), none, some (eJ (b)), none, some (eJ (v4)), none, none, none, none, none]) (s2 := []) rfl rfl rfl ?_
  refine w_t (np := 11) (l2 := [some (eJ (a)), none, some (eJ (b)), none, some (eJ (v4)), none, none, none, none, none]) (s2 := [eJ (v4)]) rfl rfl rfl ?_
  refine w_t (np := 12) (l2 := [some (eJ (a)), none, some (eJ (b)), none, some (eJ (v4)), none, none, none, none, none]) (s2 := [eJ (0), eJ (v4)]) rfl rfl rfl ?_
  refine b_llt (t1 := 41) (t2 := 16) rfl rfl rfl rfl (ev_W_in (by omega) (by omega)) rfl (fun g7 => ?_) (fun g7 => ?_)
  · refine w_t (np := 43) (l2 := [some (eJ (a)), none, some (eJ (b)), none, some (eJ (v4)), none, none, none, none, none]) (s2 := [eJ (v4)]) rfl rfl rfl ?_
    refine w_t (np := 44) (l2 := [some (eJ (a)), none, some (eJ (b)), none, some (eJ (v4)), none, none, none, none, none]) (s2 := [eJ (0), eJ (v4)]) rfl rfl rfl ?_
    refine b_lgt (t1 := 56) (t2 := 48) rfl rfl rfl rfl (ev_W_in (by omega) (by omega)) rfl (fun g8 => ?_) (fun g8 => ?_)
    · refine w_t (np := 58) (l2 := [some (eJ (a)), none, some (eJ (b)), none, some (eJ (v4)), none, none, none, none, none]) (s2 := [eJ (v4)]) rfl rfl rfl ?_
      refine w_t (np := 60) (l2 := [some (eJ (a)), none, some (eJ (b)), none, some (eJ (v4)), none, none, none, none, none]) (s2 := [eJ (v4), eJ (v4)]) rfl rfl rfl ?_
      obtain ⟨v9, e10⟩ : ∃ zz : Int, zz = (v4) * (v4) := ⟨_, rfl⟩
      have b11 : -22500000000000000 ≤ v9 ∧ v9 ≤ 22500000000000000 := by
        have hm := i_mulb (a := v4) (b := v4) (A := 150000000) (B := 150000000) (by omega) (by omega)
        rw [e10]
        omega
      refine w_t (np := 61) (l2 := [some (eJ (a)), none, some (eJ (b)), none, some (eJ (v4)), none, none, none, none, none]) (s2 := [eJ (v9)]) rfl (b_lmul (by rw [← e10]; exact ev_W_in (by omega) (by omega))) rfl ?_
      refine w_t (np := 63) (l2 := [some (eJ (a)), none, some (eJ (b)), none, some (eJ (v4)), none, some (eJ (v9)), none, none, none]) (s2 := []) rfl rfl rfl ?_
      refine v_l2 (np := 66) (c := 5) rfl rfl (by decide) ?_
      rw [show zJ 5 = 5 by decide]
      refine w_t (np := 67) (l2 := [some (eJ (a)), none, some (eJ (b)), none, some (eJ (v4)), none, some (eJ (v9)), none, none, none]) (s2 := [eJ (b), eJ (5)]) rfl rfl rfl ?_
      obtain ⟨v12, e13⟩ : ∃ zz : Int, zz = (5) * (b) := ⟨_, rfl⟩
      have b14 : -250000000 ≤ v12 ∧ v12 ≤ 250000000 := by omega
      refine w_t (np := 68) (l2 := [some (eJ (a)), none, some (eJ (b)), none, some (eJ (v4)), none, some (eJ (v9)), none, none, none]) (s2 := [eJ (v12)]) rfl (b_lmul (by rw [← e13]; exact ev_W_in (by omega) (by omega))) rfl ?_
      refine w_t (np := 69) (l2 := [some (eJ (a)), none, some (eJ (b)), none, some (eJ (v4)), none, some (eJ (v9)), none, none, none]) (s2 := [eJ (b), eJ (v12)]) rfl rfl rfl ?_
      obtain ⟨v15, e16⟩ : ∃ zz : Int, zz = (v12) * (b) := ⟨_, rfl⟩
      have b17 : -12500000000000000 ≤ v15 ∧ v15 ≤ 12500000000000000 := by
        have hm := i_mulb (a := v12) (b := b) (A := 250000000) (B := 50000000) (by omega) (by omega)
        rw [e16]
        omega
      refine w_t (np := 70) (l2 := [some (eJ (a)), none, some (eJ (b)), none, some (eJ (v4)), none, some (eJ (v9)), none, none, none]) (s2 := [eJ (v15)]) rfl (b_lmul (by rw [← e16]; exact ev_W_in (by omega) (by omega))) rfl ?_
      refine w_t (np := 72) (l2 := [some (eJ (a)), none, some (eJ (b)), none, some (eJ (v4)), none, some (eJ (v9)), none, some (eJ (v15)), none]) (s2 := []) rfl rfl rfl ?_
      refine w_t (np := 74) (l2 := [some (eJ (a)), none, some (eJ (b)), none, some (eJ (v4)), none, some (eJ (v9)), none, some (eJ (v15)), none]) (s2 := [eJ (v4)]) rfl rfl rfl ?_
      refine w_t (np := 75) (l2 := [some (eJ (a)), none, some (eJ (b)), none, some (eJ (v4)), none, some (eJ (v9)), none, some (eJ (v15)), none]) (s2 := [eJ (0), eJ (v4)]) rfl rfl rfl ?_
      refine b_lle (t1 := 95) (t2 := 79) rfl rfl rfl rfl (ev_W_in (by omega) (by omega)) rfl (fun g18 => ?_) (fun g18 => ?_)
      · refine w_t (np := 97) (l2 := [some (eJ (a)), none, some (eJ (b)), none, some (eJ (v4)), none, some (eJ (v9)), none, some (eJ (v15)), none]) (s2 := [eJ (v15)]) rfl rfl rfl ?_
        refine w_t (np := 99) (l2 := [some (eJ (a)), none, some (eJ (b)), none, some (eJ (v4)), none, some (eJ (v9)), none, some (eJ (v15)), none]) (s2 := [eJ (v9), eJ (v15)]) rfl rfl rfl ?_
        refine b_lle (t1 := 107) (t2 := 103) rfl rfl rfl rfl (ev_W_in (by omega) (by omega)) (ev_W_in (by omega) (by omega)) (fun g19 => ?_) (fun g19 => ?_)
        · refine w_t (np := 108) (l2 := [some (eJ (a)), none, some (eJ (b)), none, some (eJ (v4)), none, some (eJ (v9)), none, some (eJ (v15)), none]) (s2 := [eI (-1)]) rfl rfl rfl ?_
          refine b_ri rfl rfl ?_
          have hx : v4 = 2 * a + b := by omega
          rw [e13] at e16
          have hr : rSg (2 * a + b) b = -1 := by
            rw [← hx]
            unfold rSg
            repeat' split
            all_goals omega
          rw [hr] at K
          exact K
        · refine w_t (np := 104) (l2 := [some (eJ (a)), none, some (eJ (b)), none, some (eJ (v4)), none, some (eJ (v9)), none, some (eJ (v15)), none]) (s2 := [eI (1)]) rfl rfl rfl ?_
          refine w_go (t1 := 108) rfl rfl ?_
          refine b_ri rfl rfl ?_
          have hx : v4 = 2 * a + b := by omega
          rw [e13] at e16
          have hr : rSg (2 * a + b) b = 1 := by
            rw [← hx]
            unfold rSg
            repeat' split
            all_goals omega
          rw [hr] at K
          exact K
      · refine w_t (np := 81) (l2 := [some (eJ (a)), none, some (eJ (b)), none, some (eJ (v4)), none, some (eJ (v9)), none, some (eJ (v15)), none]) (s2 := [eJ (v9)]) rfl rfl rfl ?_
        refine w_t (np := 83) (l2 := [some (eJ (a)), none, some (eJ (b)), none, some (eJ (v4)), none, some (eJ (v9)), none, some (eJ (v15)), none]) (s2 := [eJ (v15), eJ (v9)]) rfl rfl rfl ?_
        refine b_lle (t1 := 91) (t2 := 87) rfl rfl rfl rfl (ev_W_in (by omega) (by omega)) (ev_W_in (by omega) (by omega)) (fun g19 => ?_) (fun g19 => ?_)
        · refine w_t (np := 92) (l2 := [some (eJ (a)), none, some (eJ (b)), none, some (eJ (v4)), none, some (eJ (v9)), none, some (eJ (v15)), none]) (s2 := [eI (-1)]) rfl rfl rfl ?_
          refine w_go (t1 := 108) rfl rfl ?_
          refine b_ri rfl rfl ?_
          have hx : v4 = 2 * a + b := by omega
          rw [e13] at e16
          have hr : rSg (2 * a + b) b = -1 := by
            rw [← hx]
            unfold rSg
            repeat' split
            all_goals omega
          rw [hr] at K
          exact K
        · refine w_t (np := 88) (l2 := [some (eJ (a)), none, some (eJ (b)), none, some (eJ (v4)), none, some (eJ (v9)), none, some (eJ (v15)), none]) (s2 := [eI (1)]) rfl rfl rfl ?_
          refine w_go (t1 := 108) rfl rfl ?_
          refine b_ri rfl rfl ?_
          have hx : v4 = 2 * a + b := by omega
          rw [e13] at e16
          have hr : rSg (2 * a + b) b = 1 := by
            rw [← hx]
            unfold rSg
            repeat' split
            all_goals omega
          rw [hr] at K
          exact K
    · refine w_t (np := 49) (l2 := [some (eJ (a)), none, some (eJ (b)), none, some (eJ (v4)), none, none, none, none, none]) (s2 := [eJ (b)]) rfl rfl rfl ?_
      refine w_t (np := 50) (l2 := [some (eJ (a)), none, some (eJ (b)), none, some (eJ (v4)), none, none, none, none, none]) (s2 := [eJ (0), eJ (b)]) rfl rfl rfl ?_
      refine b_lgt (t1 := 56) (t2 := 54) rfl rfl rfl rfl (ev_W_in (by omega) (by omega)) rfl (fun g9 => ?_) (fun g9 => ?_)
      · refine w_t (np := 58) (l2 := [some (eJ (a)), none, some (eJ (b)), none, some (eJ (v4)), none, none, none, none, none]) (s2 := [eJ (v4)]) rfl rfl rfl ?_
        refine w_t (np := 60) (l2 := [some (eJ (a)), none, some (eJ (b)), none, some (eJ (v4)), none, none, none, none, none]) (s2 := [eJ (v4), eJ (v4)]) rfl rfl rfl ?_
        obtain ⟨v10, e11⟩ : ∃ zz : Int, zz = (v4) * (v4) := ⟨_, rfl⟩
        have b12 : -22500000000000000 ≤ v10 ∧ v10 ≤ 22500000000000000 := by
          have hm := i_mulb (a := v4) (b := v4) (A := 150000000) (B := 150000000) (by omega) (by omega)
          rw [e11]
          omega
        refine w_t (np := 61) (l2 := [some (eJ (a)), none, some (eJ (b)), none, some (eJ (v4)), none, none, none, none, none]) (s2 := [eJ (v10)]) rfl (b_lmul (by rw [← e11]; exact ev_W_in (by omega) (by omega))) rfl ?_
        refine w_t (np := 63) (l2 := [some (eJ (a)), none, some (eJ (b)), none, some (eJ (v4)), none, some (eJ (v10)), none, none, none]) (s2 := []) rfl rfl rfl ?_
        refine v_l2 (np := 66) (c := 5) rfl rfl (by decide) ?_
        rw [show zJ 5 = 5 by decide]
        refine w_t (np := 67) (l2 := [some (eJ (a)), none, some (eJ (b)), none, some (eJ (v4)), none, some (eJ (v10)), none, none, none]) (s2 := [eJ (b), eJ (5)]) rfl rfl rfl ?_
        obtain ⟨v13, e14⟩ : ∃ zz : Int, zz = (5) * (b) := ⟨_, rfl⟩
        have b15 : -250000000 ≤ v13 ∧ v13 ≤ 250000000 := by omega
        refine w_t (np := 68) (l2 := [some (eJ (a)), none, some (eJ (b)), none, some (eJ (v4)), none, some (eJ (v10)), none, none, none]) (s2 := [eJ (v13)]) rfl (b_lmul (by rw [← e14]; exact ev_W_in (by omega) (by omega))) rfl ?_
        refine w_t (np := 69) (l2 := [some (eJ (a)), none, some (eJ (b)), none, some (eJ (v4)), none, some (eJ (v10)), none, none, none]) (s2 := [eJ (b), eJ (v13)]) rfl rfl rfl ?_
        obtain ⟨v16, e17⟩ : ∃ zz : Int, zz = (v13) * (b) := ⟨_, rfl⟩
        have b18 : -12500000000000000 ≤ v16 ∧ v16 ≤ 12500000000000000 := by
          have hm := i_mulb (a := v13) (b := b) (A := 250000000) (B := 50000000) (by omega) (by omega)
          rw [e17]
          omega
        refine w_t (np := 70) (l2 := [some (eJ (a)), none, some (eJ (b)), none, some (eJ (v4)), none, some (eJ (v10)), none, none, none]) (s2 := [eJ (v16)]) rfl (b_lmul (by rw [← e17]; exact ev_W_in (by omega) (by omega))) rfl ?_
        refine w_t (np := 72) (l2 := [some (eJ (a)), none, some (eJ (b)), none, some (eJ (v4)), none, some (eJ (v10)), none, some (eJ (v16)), none]) (s2 := []) rfl rfl rfl ?_
        refine w_t (np := 74) (l2 := [some (eJ (a)), none, some (eJ (b)), none, some (eJ (v4)), none, some (eJ (v10)), none, some (eJ (v16)), none]) (s2 := [eJ (v4)]) rfl rfl rfl ?_
        refine w_t (np := 75) (l2 := [some (eJ (a)), none, some (eJ (b)), none, some (eJ (v4)), none, some (eJ (v10)), none, some (eJ (v16)), none]) (s2 := [eJ (0), eJ (v4)]) rfl rfl rfl ?_
        refine b_lle (t1 := 95) (t2 := 79) rfl rfl rfl rfl (ev_W_in (by omega) (by omega)) rfl (fun g19 => ?_) (fun g19 => ?_)
        · refine w_t (np := 97) (l2 := [some (eJ (a)), none, some (eJ (b)), none, some (eJ (v4)), none, some (eJ (v10)), none, some (eJ (v16)), none]) (s2 := [eJ (v16)]) rfl rfl rfl ?_
          refine w_t (np := 99) (l2 := [some (eJ (a)), none, some (eJ (b)), none, some (eJ (v4)), none, some (eJ (v10)), none, some (eJ (v16)), none]) (s2 := [eJ (v10), eJ (v16)]) rfl rfl rfl ?_
          refine b_lle (t1 := 107) (t2 := 103) rfl rfl rfl rfl (ev_W_in (by omega) (by omega)) (ev_W_in (by omega) (by omega)) (fun g20 => ?_) (fun g20 => ?_)
          · refine w_t (np := 108) (l2 := [some (eJ (a)), none, some (eJ (b)), none, some (eJ (v4)), none, some (eJ (v10)), none, some (eJ (v16)), none]) (s2 := [eI (-1)]) rfl rfl rfl ?_
            refine b_ri rfl rfl ?_
            have hx : v4 = 2 * a + b := by omega
            rw [e14] at e17
            have hr : rSg (2 * a + b) b = -1 := by
              rw [← hx]
              unfold rSg
              repeat' split
              all_goals omega
            rw [hr] at K
            exact K
          · refine w_t (np := 104) (l2 := [some (eJ (a)), none, some (eJ (b)), none, some (eJ (v4)), none, some (eJ (v10)), none, some (eJ (v16)), none]) (s2 := [eI (1)]) rfl rfl rfl ?_
            refine w_go (t1 := 108) rfl rfl ?_
            refine b_ri rfl rfl ?_
            have hx : v4 = 2 * a + b := by omega
            rw [e14] at e17
            have hr : rSg (2 * a + b) b = 1 := by
              rw [← hx]
              unfold rSg
              repeat' split
              all_goals omega
            rw [hr] at K
            exact K
        · refine w_t (np := 81) (l2 := [some (eJ (a)), none, some (eJ (b)), none, some (eJ (v4)), none, some (eJ (v10)), none, some (eJ (v16)), none]) (s2 := [eJ (v10)]) rfl rfl rfl ?_
          refine w_t (np := 83) (l2 := [some (eJ (a)), none, some (eJ (b)), none, some (eJ (v4)), none, some (eJ (v10)), none, some (eJ (v16)), none]) (s2 := [eJ (v16), eJ (v10)]) rfl rfl rfl ?_
          refine b_lle (t1 := 91) (t2 := 87) rfl rfl rfl rfl (ev_W_in (by omega) (by omega)) (ev_W_in (by omega) (by omega)) (fun g20 => ?_) (fun g20 => ?_)
          · refine w_t (np := 92) (l2 := [some (eJ (a)), none, some (eJ (b)), none, some (eJ (v4)), none, some (eJ (v10)), none, some (eJ (v16)), none]) (s2 := [eI (-1)]) rfl rfl rfl ?_
            refine w_go (t1 := 108) rfl rfl ?_
            refine b_ri rfl rfl ?_
            have hx : v4 = 2 * a + b := by omega
            rw [e14] at e17
            have hr : rSg (2 * a + b) b = -1 := by
              rw [← hx]
              unfold rSg
              repeat' split
              all_goals omega
            rw [hr] at K
            exact K
          · refine w_t (np := 88) (l2 := [some (eJ (a)), none, some (eJ (b)), none, some (eJ (v4)), none, some (eJ (v10)), none, some (eJ (v16)), none]) (s2 := [eI (1)]) rfl rfl rfl ?_
            refine w_go (t1 := 108) rfl rfl ?_
            refine b_ri rfl rfl ?_
            have hx : v4 = 2 * a + b := by omega
            rw [e14] at e17
            have hr : rSg (2 * a + b) b = 1 := by
              rw [← hx]
              unfold rSg
              repeat' split
              all_goals omega
            rw [hr] at K
            exact K
      · refine w_t (np := 55) (l2 := [some (eJ (a)), none, some (eJ (b)), none, some (eJ (v4)), none, none, none, none, none]) (s2 := [eI (-1)]) rfl rfl rfl ?_
        refine b_ri rfl rfl ?_
        have hx : v4 = 2 * a + b := by omega
        have hr : rSg (2 * a + b) b = -1 := by
          rw [← hx]
          unfold rSg
          repeat' split
          all_goals omega
        rw [hr] at K
        exact K
  · refine w_t (np := 17) (l2 := [some (eJ (a)), none, some (eJ (b)), none, some (eJ (v4)), none, none, none, none, none]) (s2 := [eJ (b)]) rfl rfl rfl ?_
    refine w_t (np := 18) (l2 := [some (eJ (a)), none, some (eJ (b)), none, some (eJ (v4)), none, none, none, none, none]) (s2 := [eJ (0), eJ (b)]) rfl rfl rfl ?_
    refine b_llt (t1 := 41) (t2 := 22) rfl rfl rfl rfl (ev_W_in (by omega) (by omega)) rfl (fun g8 => ?_) (fun g8 => ?_)
    · refine w_t (np := 43) (l2 := [some (eJ (a)), none, some (eJ (b)), none, some (eJ (v4)), none, none, none, none, none]) (s2 := [eJ (v4)]) rfl rfl rfl ?_
      refine w_t (np := 44) (l2 := [some (eJ (a)), none, some (eJ (b)), none, some (eJ (v4)), none, none, none, none, none]) (s2 := [eJ (0), eJ (v4)]) rfl rfl rfl ?_
      refine b_lgt (t1 := 56) (t2 := 48) rfl rfl rfl rfl (ev_W_in (by omega) (by omega)) rfl (fun g9 => ?_) (fun g9 => ?_)
      · refine w_t (np := 58) (l2 := [some (eJ (a)), none, some (eJ (b)), none, some (eJ (v4)), none, none, none, none, none]) (s2 := [eJ (v4)]) rfl rfl rfl ?_
        refine w_t (np := 60) (l2 := [some (eJ (a)), none, some (eJ (b)), none, some (eJ (v4)), none, none, none, none, none]) (s2 := [eJ (v4), eJ (v4)]) rfl rfl rfl ?_
        obtain ⟨v10, e11⟩ : ∃ zz : Int, zz = (v4) * (v4) := ⟨_, rfl⟩
        have b12 : -22500000000000000 ≤ v10 ∧ v10 ≤ 22500000000000000 := by
          have hm := i_mulb (a := v4) (b := v4) (A := 150000000) (B := 150000000) (by omega) (by omega)
          rw [e11]
          omega
        refine w_t (np := 61) (l2 := [some (eJ (a)), none, some (eJ (b)), none, some (eJ (v4)), none, none, none, none, none]) (s2 := [eJ (v10)]) rfl (b_lmul (by rw [← e11]; exact ev_W_in (by omega) (by omega))) rfl ?_
        refine w_t (np := 63) (l2 := [some (eJ (a)), none, some (eJ (b)), none, some (eJ (v4)), none, some (eJ (v10)), none, none, none]) (s2 := []) rfl rfl rfl ?_
        refine v_l2 (np := 66) (c := 5) rfl rfl (by decide) ?_
        rw [show zJ 5 = 5 by decide]
        refine w_t (np := 67) (l2 := [some (eJ (a)), none, some (eJ (b)), none, some (eJ (v4)), none, some (eJ (v10)), none, none, none]) (s2 := [eJ (b), eJ (5)]) rfl rfl rfl ?_
        obtain ⟨v13, e14⟩ : ∃ zz : Int, zz = (5) * (b) := ⟨_, rfl⟩
        have b15 : -250000000 ≤ v13 ∧ v13 ≤ 250000000 := by omega
        refine w_t (np := 68) (l2 := [some (eJ (a)), none, some (eJ (b)), none, some (eJ (v4)), none, some (eJ (v10)), none, none, none]) (s2 := [eJ (v13)]) rfl (b_lmul (by rw [← e14]; exact ev_W_in (by omega) (by omega))) rfl ?_
        refine w_t (np := 69) (l2 := [some (eJ (a)), none, some (eJ (b)), none, some (eJ (v4)), none, some (eJ (v10)), none, none, none]) (s2 := [eJ (b), eJ (v13)]) rfl rfl rfl ?_
        obtain ⟨v16, e17⟩ : ∃ zz : Int, zz = (v13) * (b) := ⟨_, rfl⟩
        have b18 : -12500000000000000 ≤ v16 ∧ v16 ≤ 12500000000000000 := by
          have hm := i_mulb (a := v13) (b := b) (A := 250000000) (B := 50000000) (by omega) (by omega)
          rw [e17]
          omega
        refine w_t (np := 70) (l2 := [some (eJ (a)), none, some (eJ (b)), none, some (eJ (v4)), none, some (eJ (v10)), none, none, none]) (s2 := [eJ (v16)]) rfl (b_lmul (by rw [← e17]; exact ev_W_in (by omega) (by omega))) rfl ?_
        refine w_t (np := 72) (l2 := [some (eJ (a)), none, some (eJ (b)), none, some (eJ (v4)), none, some (eJ (v10)), none, some (eJ (v16)), none]) (s2 := []) rfl rfl rfl ?_
        refine w_t (np := 74) (l2 := [some (eJ (a)), none, some (eJ (b)), none, some (eJ (v4)), none, some (eJ (v10)), none, some (eJ (v16)), none]) (s2 := [eJ (v4)]) rfl rfl rfl ?_
        refine w_t (np := 75) (l2 := [some (eJ (a)), none, some (eJ (b)), none, some (eJ (v4)), none, some (eJ (v10)), none, some (eJ (v16)), none]) (s2 := [eJ (0), eJ (v4)]) rfl rfl rfl ?_
        refine b_lle (t1 := 95) (t2 := 79) rfl rfl rfl rfl (ev_W_in (by omega) (by omega)) rfl (fun g19 => ?_) (fun g19 => ?_)
        · refine w_t (np := 97) (l2 := [some (eJ (a)), none, some (eJ (b)), none, some (eJ (v4)), none, some (eJ (v10)), none, some (eJ (v16)), none]) (s2 := [eJ (v16)]) rfl rfl rfl ?_
          refine w_t (np := 99) (l2 := [some (eJ (a)), none, some (eJ (b)), none, some (eJ (v4)), none, some (eJ (v10)), none, some (eJ (v16)), none]) (s2 := [eJ (v10), eJ (v16)]) rfl rfl rfl ?_
          refine b_lle (t1 := 107) (t2 := 103) rfl rfl rfl rfl (ev_W_in (by omega) (by omega)) (ev_W_in (by omega) (by omega)) (fun g20 => ?_) (fun g20 => ?_)
          · refine w_t (np := 108) (l2 := [some (eJ (a)), none, some (eJ (b)), none, some (eJ (v4)), none, some (eJ (v10)), none, some (eJ (v16)), none]) (s2 := [eI (-1)]) rfl rfl rfl ?_
            refine b_ri rfl rfl ?_
            have hx : v4 = 2 * a + b := by omega
            rw [e14] at e17
            have hr : rSg (2 * a + b) b = -1 := by
              rw [← hx]
              unfold rSg
              repeat' split
              all_goals omega
            rw [hr] at K
            exact K
          · refine w_t (np := 104) (l2 := [some (eJ (a)), none, some (eJ (b)), none, some (eJ (v4)), none, some (eJ (v10)), none, some (eJ (v16)), none]) (s2 := [eI (1)]) rfl rfl rfl ?_
            refine w_go (t1 := 108) rfl rfl ?_
            refine b_ri rfl rfl ?_
            have hx : v4 = 2 * a + b := by omega
            rw [e14] at e17
            have hr : rSg (2 * a + b) b = 1 := by
              rw [← hx]
              unfold rSg
              repeat' split
              all_goals omega
            rw [hr] at K
            exact K
        · refine w_t (np := 81) (l2 := [some (eJ (a)), none, some (eJ (b)), none, some (eJ (v4)), none, some (eJ (v10)), none, some (eJ (v16)), none]) (s2 := [eJ (v10)]) rfl rfl rfl ?_
          refine w_t (np := 83) (l2 := [some (eJ (a)), none, some (eJ (b)), none, some (eJ (v4)), none, some (eJ (v10)), none, some (eJ (v16)), none]) (s2 := [eJ (v16), eJ (v10)]) rfl rfl rfl ?_
          refine b_lle (t1 := 91) (t2 := 87) rfl rfl rfl rfl (ev_W_in (by omega) (by omega)) (ev_W_in (by omega) (by omega)) (fun g20 => ?_) (fun g20 => ?_)
          · refine w_t (np := 92) (l2 := [some (eJ (a)), none, some (eJ (b)), none, some (eJ (v4)), none, some (eJ (v10)), none, some (eJ (v16)), none]) (s2 := [eI (-1)]) rfl rfl rfl ?_
            refine w_go (t1 := 108) rfl rfl ?_
            refine b_ri rfl rfl ?_
            have hx : v4 = 2 * a + b := by omega
            rw [e14] at e17
            have hr : rSg (2 * a + b) b = -1 := by
              rw [← hx]
              unfold rSg
              repeat' split
              all_goals omega
            rw [hr] at K
            exact K
          · refine w_t (np := 88) (l2 := [some (eJ (a)), none, some (eJ (b)), none, some (eJ (v4)), none, some (eJ (v10)), none, some (eJ (v16)), none]) (s2 := [eI (1)]) rfl rfl rfl ?_
            refine w_go (t1 := 108) rfl rfl ?_
            refine b_ri rfl rfl ?_
            have hx : v4 = 2 * a + b := by omega
            rw [e14] at e17
            have hr : rSg (2 * a + b) b = 1 := by
              rw [← hx]
              unfold rSg
              repeat' split
              all_goals omega
            rw [hr] at K
            exact K
      · refine w_t (np := 49) (l2 := [some (eJ (a)), none, some (eJ (b)), none, some (eJ (v4)), none, none, none, none, none]) (s2 := [eJ (b)]) rfl rfl rfl ?_
        refine w_t (np := 50) (l2 := [some (eJ (a)), none, some (eJ (b)), none, some (eJ (v4)), none, none, none, none, none]) (s2 := [eJ (0), eJ (b)]) rfl rfl rfl ?_
        refine b_lgt (t1 := 56) (t2 := 54) rfl rfl rfl rfl (ev_W_in (by omega) (by omega)) rfl (fun g10 => ?_) (fun g10 => ?_)
        · refine w_t (np := 58) (l2 := [some (eJ (a)), none, some (eJ (b)), none, some (eJ (v4)), none, none, none, none, none]) (s2 := [eJ (v4)]) rfl rfl rfl ?_
          refine w_t (np := 60) (l2 := [some (eJ (a)), none, some (eJ (b)), none, some (eJ (v4)), none, none, none, none, none]) (s2 := [eJ (v4), eJ (v4)]) rfl rfl rfl ?_
          obtain ⟨v11, e12⟩ : ∃ zz : Int, zz = (v4) * (v4) := ⟨_, rfl⟩
          have b13 : -22500000000000000 ≤ v11 ∧ v11 ≤ 22500000000000000 := by
            have hm := i_mulb (a := v4) (b := v4) (A := 150000000) (B := 150000000) (by omega) (by omega)
            rw [e12]
            omega
          refine w_t (np := 61) (l2 := [some (eJ (a)), none, some (eJ (b)), none, some (eJ (v4)), none, none, none, none, none]) (s2 := [eJ (v11)]) rfl (b_lmul (by rw [← e12]; exact ev_W_in (by omega) (by omega))) rfl ?_
          refine w_t (np := 63) (l2 := [some (eJ (a)), none, some (eJ (b)), none, some (eJ (v4)), none, some (eJ (v11)), none, none, none]) (s2 := []) rfl rfl rfl ?_
          refine v_l2 (np := 66) (c := 5) rfl rfl (by decide) ?_
          rw [show zJ 5 = 5 by decide]
          refine w_t (np := 67) (l2 := [some (eJ (a)), none, some (eJ (b)), none, some (eJ (v4)), none, some (eJ (v11)), none, none, none]) (s2 := [eJ (b), eJ (5)]) rfl rfl rfl ?_
          obtain ⟨v14, e15⟩ : ∃ zz : Int, zz = (5) * (b) := ⟨_, rfl⟩
          have b16 : -250000000 ≤ v14 ∧ v14 ≤ 250000000 := by omega
          refine w_t (np := 68) (l2 := [some (eJ (a)), none, some (eJ (b)), none, some (eJ (v4)), none, some (eJ (v11)), none, none, none]) (s2 := [eJ (v14)]) rfl (b_lmul (by rw [← e15]; exact ev_W_in (by omega) (by omega))) rfl ?_
          refine w_t (np := 69) (l2 := [some (eJ (a)), none, some (eJ (b)), none, some (eJ (v4)), none, some (eJ (v11)), none, none, none]) (s2 := [eJ (b), eJ (v14)]) rfl rfl rfl ?_
          obtain ⟨v17, e18⟩ : ∃ zz : Int, zz = (v14) * (b) := ⟨_, rfl⟩
          have b19 : -12500000000000000 ≤ v17 ∧ v17 ≤ 12500000000000000 := by
            have hm := i_mulb (a := v14) (b := b) (A := 250000000) (B := 50000000) (by omega) (by omega)
            rw [e18]
            omega
          refine w_t (np := 70) (l2 := [some (eJ (a)), none, some (eJ (b)), none, some (eJ (v4)), none, some (eJ (v11)), none, none, none]) (s2 := [eJ (v17)]) rfl (b_lmul (by rw [← e18]; exact ev_W_in (by omega) (by omega))) rfl ?_
          refine w_t (np := 72) (l2 := [some (eJ (a)), none, some (eJ (b)), none, some (eJ (v4)), none, some (eJ (v11)), none, some (eJ (v17)), none]) (s2 := []) rfl rfl rfl ?_
          refine w_t (np := 74) (l2 := [some (eJ (a)), none, some (eJ (b)), none, some (eJ (v4)), none, some (eJ (v11)), none, some (eJ (v17)), none]) (s2 := [eJ (v4)]) rfl rfl rfl ?_
          refine w_t (np := 75) (l2 := [some (eJ (a)), none, some (eJ (b)), none, some (eJ (v4)), none, some (eJ (v11)), none, some (eJ (v17)), none]) (s2 := [eJ (0), eJ (v4)]) rfl rfl rfl ?_
          refine b_lle (t1 := 95) (t2 := 79) rfl rfl rfl rfl (ev_W_in (by omega) (by omega)) rfl (fun g20 => ?_) (fun g20 => ?_)
          · refine w_t (np := 97) (l2 := [some (eJ (a)), none, some (eJ (b)), none, some (eJ (v4)), none, some (eJ (v11)), none, some (eJ (v17)), none]) (s2 := [eJ (v17)]) rfl rfl rfl ?_
            refine w_t (np := 99) (l2 := [some (eJ (a)), none, some (eJ (b)), none, some (eJ (v4)), none, some (eJ (v11)), none, some (eJ (v17)), none]) (s2 := [eJ (v11), eJ (v17)]) rfl rfl rfl ?_
            refine b_lle (t1 := 107) (t2 := 103) rfl rfl rfl rfl (ev_W_in (by omega) (by omega)) (ev_W_in (by omega) (by omega)) (fun g21 => ?_) (fun g21 => ?_)
            · refine w_t (np := 108) (l2 := [some (eJ (a)), none, some (eJ (b)), none, some (eJ (v4)), none, some (eJ (v11)), none, some (eJ (v17)), none]) (s2 := [eI (-1)]) rfl rfl rfl ?_
              refine b_ri rfl rfl ?_
              have hx : v4 = 2 * a + b := by omega
              rw [e15] at e18
              have hr : rSg (2 * a + b) b = -1 := by
                rw [← hx]
                unfold rSg
                repeat' split
                all_goals omega
              rw [hr] at K
              exact K
            · refine w_t (np := 104) (l2 := [some (eJ (a)), none, some (eJ (b)), none, some (eJ (v4)), none, some (eJ (v11)), none, some (eJ (v17)), none]) (s2 := [eI (1)]) rfl rfl rfl ?_
              refine w_go (t1 := 108) rfl rfl ?_
              refine b_ri rfl rfl ?_
              have hx : v4 = 2 * a + b := by omega
              rw [e15] at e18
              have hr : rSg (2 * a + b) b = 1 := by
                rw [← hx]
                unfold rSg
                repeat' split
                all_goals omega
              rw [hr] at K
              exact K
          · refine w_t (np := 81) (l2 := [some (eJ (a)), none, some (eJ (b)), none, some (eJ (v4)), none, some (eJ (v11)), none, some (eJ (v17)), none]) (s2 := [eJ (v11)]) rfl rfl rfl ?_
            refine w_t (np := 83) (l2 := [some (eJ (a)), none, some (eJ (b)), none, some (eJ (v4)), none, some (eJ (v11)), none, some (eJ (v17)), none]) (s2 := [eJ (v17), eJ (v11)]) rfl rfl rfl ?_
            refine b_lle (t1 := 91) (t2 := 87) rfl rfl rfl rfl (ev_W_in (by omega) (by omega)) (ev_W_in (by omega) (by omega)) (fun g21 => ?_) (fun g21 => ?_)
            · refine w_t (np := 92) (l2 := [some (eJ (a)), none, some (eJ (b)), none, some (eJ (v4)), none, some (eJ (v11)), none, some (eJ (v17)), none]) (s2 := [eI (-1)]) rfl rfl rfl ?_
              refine w_go (t1 := 108) rfl rfl ?_
              refine b_ri rfl rfl ?_
              have hx : v4 = 2 * a + b := by omega
              rw [e15] at e18
              have hr : rSg (2 * a + b) b = -1 := by
                rw [← hx]
                unfold rSg
                repeat' split
                all_goals omega
              rw [hr] at K
              exact K
            · refine w_t (np := 88) (l2 := [some (eJ (a)), none, some (eJ (b)), none, some (eJ (v4)), none, some (eJ (v11)), none, some (eJ (v17)), none]) (s2 := [eI (1)]) rfl rfl rfl ?_
              refine w_go (t1 := 108) rfl rfl ?_
              refine b_ri rfl rfl ?_
              have hx : v4 = 2 * a + b := by omega
              rw [e15] at e18
              have hr : rSg (2 * a + b) b = 1 := by
                rw [← hx]
                unfold rSg
                repeat' split
                all_goals omega
              rw [hr] at K
              exact K
        · refine w_t (np := 55) (l2 := [some (eJ (a)), none, some (eJ (b)), none, some (eJ (v4)), none, none, none, none, none]) (s2 := [eI (-1)]) rfl rfl rfl ?_
          refine b_ri rfl rfl ?_
          have hx : v4 = 2 * a + b := by omega
          have hr : rSg (2 * a + b) b = -1 := by
            rw [← hx]
            unfold rSg
            repeat' split
            all_goals omega
          rw [hr] at K
          exact K
    · refine w_t (np := 24) (l2 := [some (eJ (a)), none, some (eJ (b)), none, some (eJ (v4)), none, none, none, none, none]) (s2 := [eJ (v4)]) rfl rfl rfl ?_
      refine w_t (np := 25) (l2 := [some (eJ (a)), none, some (eJ (b)), none, some (eJ (v4)), none, none, none, none, none]) (s2 := [eJ (0), eJ (v4)]) rfl rfl rfl ?_
      refine b_lne (t1 := 39) (t2 := 29) rfl rfl rfl rfl (ev_W_in (by omega) (by omega)) rfl (fun g9 => ?_) (fun g9 => ?_)
      · refine w_t (np := 40) (l2 := [some (eJ (a)), none, some (eJ (b)), none, some (eJ (v4)), none, none, none, none, none]) (s2 := [eI (1)]) rfl rfl rfl ?_
        refine b_ri rfl rfl ?_
        have hx : v4 = 2 * a + b := by omega
        have hr : rSg (2 * a + b) b = 1 := by
          rw [← hx]
          unfold rSg
          repeat' split
          all_goals omega
        rw [hr] at K
        exact K
      · refine w_t (np := 30) (l2 := [some (eJ (a)), none, some (eJ (b)), none, some (eJ (v4)), none, none, none, none, none]) (s2 := [eJ (b)]) rfl rfl rfl ?_
        refine w_t (np := 31) (l2 := [some (eJ (a)), none, some (eJ (b)), none, some (eJ (v4)), none, none, none, none, none]) (s2 := [eJ (0), eJ (b)]) rfl rfl rfl ?_
        refine b_lne (t1 := 39) (t2 := 35) rfl rfl rfl rfl (ev_W_in (by omega) (by omega)) rfl (fun g10 => ?_) (fun g10 => ?_)
        · refine w_t (np := 40) (l2 := [some (eJ (a)), none, some (eJ (b)), none, some (eJ (v4)), none, none, none, none, none]) (s2 := [eI (1)]) rfl rfl rfl ?_
          refine b_ri rfl rfl ?_
          have hx : v4 = 2 * a + b := by omega
          have hr : rSg (2 * a + b) b = 1 := by
            rw [← hx]
            unfold rSg
            repeat' split
            all_goals omega
          rw [hr] at K
          exact K
        · refine w_t (np := 36) (l2 := [some (eJ (a)), none, some (eJ (b)), none, some (eJ (v4)), none, none, none, none, none]) (s2 := [eI (0)]) rfl rfl rfl ?_
          refine w_go (t1 := 40) rfl rfl ?_
          refine b_ri rfl rfl ?_
          have hx : v4 = 2 * a + b := by omega
          have hr : rSg (2 * a + b) b = 0 := by
            rw [← hx]
            unfold rSg
            repeat' split
            all_goals omega
          rw [hr] at K
          exact K
theorem t224 {fg : eG} {rc rs d : Nat} {f : eFr} {F : List eFr} {μ : eM} {p q r s t u v w : Int} (hk : ev_kd μ 98 = some 11) (hp : -8 ≤ p ∧ p ≤ 8) (hq : -8 ≤ q ∧ q ≤ 8) (hr : -8 ≤ r ∧ r ≤ 8) (hs : -8 ≤ s ∧ s ≤ 8) (ht : -100000 ≤ t ∧ t ≤ 100000) (hu : -100000 ≤ u ∧ u ≤ 100000) (hv : -100000 ≤ v ∧ v ≤ 100000) (hw : -100000 ≤ w ∧ w ≤ 100000) (K : ∀ (μ2 : eM) (B G : Int), tS μ μ2 → B = ((((((((((p) + (q))) * (u))) + (((((0) - (q))) * (((t) + (w))))))) + (((((q) - (s))) * (((((0) - (w))) + (((v) + (w))))))))) + (((((((0) - (q))) - (r))) * (((((0) - (((v) + (w))))) + (((((u) - (w))) + (((v) + (w)))))))))) → G = ((((((((((p) + (q))) * (v))) + (((((0) - (q))) * (((u) - (w))))))) + (((((q) - (s))) * (((((t) + (w))) - (((v) + (w))))))))) + (((((((0) - (q))) - (r))) * (((((((0) - (w))) + (((v) + (w))))) - (((((u) - (w))) + (((v) + (w)))))))))) + ((((((((((p) + (q))) * (w))) + (((((0) - (q))) * (((v) + (w))))))) + (((((q) - (s))) * (((((u) - (w))) + (((v) + (w))))))))) + (((((((0) - (q))) - (r))) * (((((((t) + (w))) - (((v) + (w))))) + (((((u) - (w))) + (((v) + (w)))))))))) → (-17600000 ≤ B ∧ B ≤ 17600000) → (-43200000 ≤ G ∧ G ≤ 43200000) → ex_fine fg rc rs (d + 4, (f.1, f.2.1, f.2.2.1, eI (rSg (2 * B + G) G) :: f.2.2.2), F, μ2)) : ex_fine fg rc rs (d + 3, (224, 0, [some (eR 98), some (eJ (p)), none, some (eJ (q)), none, some (eJ (r)), none, some (eJ (s)), none, some (eJ (t)), none, some (eJ (u)), none, some (eJ (v)), none, some (eJ (w)), none], []), f :: F, μ) := by
  refine w_t (np := 1) (l2 := [some (eR 98), some (eJ (p)), none, some (eJ (q)), none, some (eJ (r)), none, some (eJ (s)), none, some (eJ (t)), none, some (eJ (u)), none, some (eJ (v)), none, some (eJ (w)), none]) (s2 := [eR 98]) rfl (s_an rfl (by decide)) rfl ?_
  refine w_t (np := 2) (l2 := [some (eR 98), some (eJ (p)), none, some (eJ (q)), none, some (eJ (r)), none, some (eJ (s)), none, some (eJ (t)), none, some (eJ (u)), none, some (eJ (v)), none, some (eJ (w)), none]) (s2 := [eJ (p), eR 98]) rfl rfl rfl ?_
  refine w_t (np := 3) (l2 := [some (eR 98), some (eJ (p)), none, some (eJ (q)), none, some (eJ (r)), none, some (eJ (s)), none, some (eJ (t)), none, some (eJ (u)), none, some (eJ (v)), none, some (eJ (w)), none]) (s2 := [eJ (q), eJ (p), eR 98]) rfl rfl rfl ?_
  refine w_t (np := 5) (l2 := [some (eR 98), some (eJ (p)), none, some (eJ (q)), none, some (eJ (r)), none, some (eJ (s)), none, some (eJ (t)), none, some (eJ (u)), none, some (eJ (v)), none, some (eJ (w)), none]) (s2 := [eJ (r), eJ (q), eJ (p), eR 98]) rfl rfl rfl ?_
  refine w_t (np := 7) (l2 := [some (eR 98), some (eJ (p)), none, some (eJ (q)), none, some (eJ (r)), none, some (eJ (s)), none, some (eJ (t)), none, some (eJ (u)), none, some (eJ (v)), none, some (eJ (w)), none]) (s2 := [eJ (s), eJ (r), eJ (q), eJ (p), eR 98]) rfl rfl rfl ?_
  refine w_cw (np := 10) (as := [eJ (p), eJ (q), eJ (r), eJ (s)]) (l2 := [some (eR 98), some (eJ (p)), none, some (eJ (q)), none, some (eJ (r)), none, some (eJ (s)), none]) (rest := []) rfl rfl rfl (Nat.ble_eq.mp rfl) rfl rfl rfl hk rfl ?_
  refine t219 hk ?_
  intro m1 s2 f3 f4 f5 f6
  have k7 := tS_kd s2 hk
  show ex_fine fg rc rs (d + 3, (224, 10, [some (eR 98), some (eJ (p)), none, some (eJ (q)), none, some (eJ (r)), none, some (eJ (s)), none, some (eJ (t)), none, some (eJ (u)), none, some (eJ (v)), none, some (eJ (w)), none], []), f :: F, m1)
  refine w_t (np := 11) (l2 := [some (eR 98), some (eJ (p)), none, some (eJ (q)), none, some (eJ (r)), none, some (eJ (s)), none, some (eJ (t)), none, some (eJ (u)), none, some (eJ (v)), none, some (eJ (w)), none]) (s2 := [eR 98]) rfl (s_an rfl (by decide)) rfl ?_
  refine w_t (np := 13) (l2 := [some (eR 98), some (eJ (p)), none, some (eJ (q)), none, some (eJ (r)), none, some (eJ (s)), none, some (eJ (t)), none, some (eJ (u)), none, some (eJ (v)), none, some (eJ (w)), none]) (s2 := [eJ (t), eR 98]) rfl rfl rfl ?_
  refine w_t (np := 15) (l2 := [some (eR 98), some (eJ (p)), none, some (eJ (q)), none, some (eJ (r)), none, some (eJ (s)), none, some (eJ (t)), none, some (eJ (u)), none, some (eJ (v)), none, some (eJ (w)), none]) (s2 := [eJ (u), eJ (t), eR 98]) rfl rfl rfl ?_
  refine w_t (np := 17) (l2 := [some (eR 98), some (eJ (p)), none, some (eJ (q)), none, some (eJ (r)), none, some (eJ (s)), none, some (eJ (t)), none, some (eJ (u)), none, some (eJ (v)), none, some (eJ (w)), none]) (s2 := [eJ (v), eJ (u), eJ (t), eR 98]) rfl rfl rfl ?_
  refine w_t (np := 19) (l2 := [some (eR 98), some (eJ (p)), none, some (eJ (q)), none, some (eJ (r)), none, some (eJ (s)), none, some (eJ (t)), none, some (eJ (u)), none, some (eJ (v)), none, some (eJ (w)), none]) (s2 := [eJ (w), eJ (v), eJ (u), eJ (t), eR 98]) rfl rfl rfl ?_
  refine w_cw (np := 22) (as := [eJ (t), eJ (u), eJ (v), eJ (w)]) (l2 := [some (eR 98), some (eJ (t)), none, some (eJ (u)), none, some (eJ (v)), none, some (eJ (w)), none, none, none, none, none, none, none, none, none, none, none, none, none, none, none, none, none]) (rest := []) rfl rfl rfl (Nat.ble_eq.mp rfl) rfl rfl rfl k7 rfl ?_
  refine t223 k7 f3 f4 f5 f6 hp hq hr hs ht hu hv hw ?_
  intro m A B C E s9 fA fB fC fE eB eG bB bC bE
  have k9 := tS_kd s9 k7
  have s10 := tS_tr s2 s9
  show ex_fine fg rc rs (d + 3, (224, 22, [some (eR 98), some (eJ (p)), none, some (eJ (q)), none, some (eJ (r)), none, some (eJ (s)), none, some (eJ (t)), none, some (eJ (u)), none, some (eJ (v)), none, some (eJ (w)), none], []), f :: F, m)
  refine w_t (np := 23) (l2 := [some (eR 98), some (eJ (p)), none, some (eJ (q)), none, some (eJ (r)), none, some (eJ (s)), none, some (eJ (t)), none, some (eJ (u)), none, some (eJ (v)), none, some (eJ (w)), none]) (s2 := [eR 98]) rfl (s_an rfl (by decide)) rfl ?_
  refine w_gf (np := 26) (v := eJ (B)) rfl rfl k9 (by rw [fB]; rfl) ?_
  refine w_t (np := 27) (l2 := [some (eR 98), some (eJ (p)), none, some (eJ (q)), none, some (eJ (r)), none, some (eJ (s)), none, some (eJ (t)), none, some (eJ (u)), none, some (eJ (v)), none, some (eJ (w)), none]) (s2 := [eR 98, eJ (B)]) rfl (s_an rfl (by decide)) rfl ?_
  refine w_gf (np := 30) (v := eJ (C)) rfl rfl k9 (by rw [fC]; rfl) ?_
  refine w_t (np := 31) (l2 := [some (eR 98), some (eJ (p)), none, some (eJ (q)), none, some (eJ (r)), none, some (eJ (s)), none, some (eJ (t)), none, some (eJ (u)), none, some (eJ (v)), none, some (eJ (w)), none]) (s2 := [eR 98, eJ (C), eJ (B)]) rfl (s_an rfl (by decide)) rfl ?_
  refine w_gf (np := 34) (v := eJ (E)) rfl rfl k9 (by rw [fE]; rfl) ?_
  obtain ⟨v8, e9⟩ : ∃ zz : Int, zz = (C) + (E) := ⟨_, rfl⟩
  have b10 : -43200000 ≤ v8 ∧ v8 ≤ 43200000 := by omega
  refine w_t (np := 35) (l2 := [some (eR 98), some (eJ (p)), none, some (eJ (q)), none, some (eJ (r)), none, some (eJ (s)), none, some (eJ (t)), none, some (eJ (u)), none, some (eJ (v)), none, some (eJ (w)), none]) (s2 := [eJ (v8), eJ (B)]) rfl (b_ladd (by rw [← e9]; exact ev_W_in (by omega) (by omega))) rfl ?_
  refine w_cu (np := 38) (as := [eJ (B), eJ (v8)]) (l2 := [some (eJ (B)), none, some (eJ (v8)), none, none, none, none, none, none, none]) (rest := []) rfl rfl rfl (Nat.ble_eq.mp rfl) rfl rfl rfl rfl ?_
  refine t222 ?_ ?_ ?_
  · omega
  · omega
  show ex_fine fg rc rs (d + 3, (224, 38, [some (eR 98), some (eJ (p)), none, some (eJ (q)), none, some (eJ (r)), none, some (eJ (s)), none, some (eJ (t)), none, some (eJ (u)), none, some (eJ (v)), none, some (eJ (w)), none], [eI (rSg (2 * B + v8) v8)]), f :: F, m)
  refine b_ri rfl rfl ?_
  exact K m B v8 s10 eB (by rw [e9]; exact eG) (bB) (b10)
