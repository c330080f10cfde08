/-! RULES FOR ALL PLACES: a small number of the script becomes one number after the other where it is reckoned with; a row's places that hold one number; a switch -/
/-- a number of the script, its bounds, if they are near each other -/
def gz_s (B : sB) (v : sV) : Option (Nat × Int × Int) := match v with
  | .inr (.inl (.inl i)) => (match B[i]? with
    | some b => if b.2 - b.1 ≤ 70 then some (i, b.1, b.2) else none
    | none => none)
  | _ => none
def gz_u (v : sV) : Bool := match v with
  | .inr _ => true
  | _ => false
/-- which place of the stack is made one number -/
def gz_p (B : sB) (i : Instr) (st : List sV) : Option Nat := match i, st with
  | .imul, v :: w :: _ | .iadd, v :: w :: _ | .isub, v :: w :: _ | .idiv, v :: w :: _ | .irem, v :: w :: _ | .ishl, v :: w :: _ | .ishr, v :: w :: _ | .iand, v :: w :: _ | .ior, v :: w :: _ | .ixor, v :: w :: _ | .iushr, v :: w :: _ => if (gz_s B v).isSome then some 0 else if (gz_s B w).isSome then some 1 else none
  | .if_icmp _ _, v :: w :: _ => if gz_u v && gz_u w then (if (gz_s B v).isSome then some 0 else if (gz_s B w).isSome then some 1 else none) else none
  | .ineg, v :: _ | .i2l, v :: _ | .i2s, v :: _ | .i2b, v :: _ | .i2d, v :: _ => if (gz_s B v).isSome then some 0 else none
  | _, _ => none
def gz_l (B : sB) (p : Nat) (st : List sV) : Option (List (sB × List sV)) := match st[p]? with
  | some v => (match gz_s B v with
    | some z => some ((List.range (z.2.2 - z.2.1 + 1).toNat).map fun k : Nat => (B.set z.1 (z.2.1 + (k : Int), z.2.1 + (k : Int)), st.set p (.inl (eI (z.2.1 + (k : Int))))))
    | none => none)
  | none => none
theorem gz_s_ok {B : sB} {v : sV} {z : Nat × Int × Int} (h : gz_s B v = some z) : v = .inr (.inl (.inl z.1)) ∧ B[z.1]? = some (z.2.1, z.2.2) := by
  unfold gz_s at h
  split at h
  · rename_i i
    split at h
    · rename_i b hb
      split at h
      · cases h
        exact ⟨rfl, hb⟩
      · cases h
    · cases h
  · cases h
theorem gz_l_ok {ρ : Nat → Int} {B : sB} {p : Nat} {st : List sV} {est : List eV} {l : List (sB × List sV)} (hB : sb_in ρ B) (hs : sl_r ρ st est) (h : gz_l B p st = some l) : ∃ q ∈ l, sb_in ρ q.1 ∧ sl_r ρ q.2 est := by
  unfold gz_l at h
  split at h
  · rename_i v hv
    split at h
    · rename_i z hz
      cases h
      obtain ⟨rfl, hb⟩ := gz_s_ok hz
      obtain ⟨e, he, hr⟩ := sl_r_get st est p _ hs hv
      obtain ⟨x, rfl⟩ := sv_ty0 hr rfl
      have hx : x = ρ z.1 := hr
      have hb2 := hB z.1 _ hb
      dsimp only at hb2
      have hk : ((x - z.2.1).toNat : Int) = x - z.2.1 := by omega
      refine ⟨_, List.mem_map.mpr ⟨(x - z.2.1).toNat, List.mem_range.mpr (by omega), rfl⟩, ?_, ?_⟩
      · dsimp only
        rw [hk]
        exact sb_in_set hB (by omega) (by omega)
      · dsimp only
        rw [hk]
        exact sl_r_set st est p _ _ hs he (by show eI (z.2.1 + (x - z.2.1)) = eI x; rw [show z.2.1 + (x - z.2.1) = x by omega])
    · cases h
  · cases h
noncomputable def g_cz : sR := fun B S => match gz_p B ((dt_co S.2.1.1).get S.2.1.2.1).2.1 S.2.1.2.2.2 with
  | some p => (match gz_l B p S.2.1.2.2.2 with
    | some l => some (l.map fun z => (z.1, (S.1, (S.2.1.1, S.2.1.2.1, S.2.1.2.2.1, z.2), S.2.2.1, S.2.2.2)))
    | none => none)
  | none => none
theorem g_cz_ok {sg : sG} {fg : eG} {rc rs : Nat} {ρ : Nat → Int} : sr_ok sg fg rc rs ρ g_cz := by
  intro B S l E h hB hS hq
  unfold g_cz at h
  split at h
  · rename_i p hp
    split at h
    · rename_i l9 hl9
      cases h
      obtain ⟨z, h1, h2, h3⟩ := gz_l_ok hB hS.2.1.2.2.2 hl9
      exact hq _ (List.mem_map.mpr ⟨z, h1, rfl⟩) E h2 ⟨hS.1, ⟨hS.2.1.1, hS.2.1.2.1, hS.2.1.2.2.1, h3⟩, hS.2.2.1, hS.2.2.2⟩
    · cases h
  · cases h
/-! one step of the small machine, by its row -/
theorem xs_m {fg : eG} {d y pc n a b t pl : Nat} {i : Instr} {x : Int} {lv : List (Option eV)} {st st' : List eV} {F : List eFr} {μ μ' : eM} (hr : (dt_co y).get pc = (pc, i, n, (a, b, t, pl), x)) (hk : dt_kl i = 2) (h : ev_m fg i a b t x st μ = some (st', μ')) : ex_1 fg (d, (y, pc, lv, st), F, μ) = some (.inl (d, (y, pc + n, lv, st'), F, μ')) := by
  unfold ex_1
  dsimp only
  rw [hr]
  have hev : ev_1 fg d y pc (pc, i, n, (a, b, t, pl), x) lv st μ = some (.inl (.inl (pc + n, lv, st', μ'))) := by
    unfold ev_1
    dsimp only
    rw [if_pos rfl, kl_s (by rw [hk]; decide)]
    dsimp only
    rw [kl_j (by rw [hk]; decide)]
    dsimp only
    rw [h]
  rw [hev]
theorem xs_j {fg : eG} {d y pc n np : Nat} {z : Nat × Nat × Nat × Nat} {i : Instr} {x : Int} {lv : List (Option eV)} {st st' : List eV} {F : List eFr} {μ : eM} (hr : (dt_co y).get pc = (pc, i, n, z, x)) (hk : dt_kl i = 1) (h : ev_j i n pc st = some (np, st')) : ex_1 fg (d, (y, pc, lv, st), F, μ) = some (.inl (d, (y, np, lv, st'), F, μ)) := by
  unfold ex_1
  dsimp only
  rw [hr]
  have hev : ev_1 fg d y pc (pc, i, n, z, x) lv st μ = some (.inl (.inl (np, lv, st', μ))) := by
    unfold ev_1
    dsimp only
    rw [if_pos rfl, kl_s (by rw [hk]; decide)]
    dsimp only
    rw [h]
  rw [hev]
/-- a load whose index isn't known, of places that all hold one number -/
def g_is (n : sN) (w : Int) : Bool := match n with
  | .inl x => decide (x = w)
  | _ => false
theorem g_is_ok {n : sN} {w : Int} (h : g_is n w = true) : n = .inl w := by
  cases n with
  | inl a => rw [of_decide_eq_true (show decide (a = w) = true from h)]
  | inr a => cases h
def g_v (n : sN) : Option Int := match n with
  | .inl x => some x
  | _ => none
noncomputable def g_eq (sg : sG) (M : sM) (B : sB) (v : sV) (r : Nat) : Option Int := match v with
  | .inr (.inl a) => (match sc_b B (.inr (.inl a)) with
    | some b => if 0 ≤ b.1 ∧ b.2 - b.1 ≤ 70 ∧ b.2 ≤ 16383 then (match sv_al sg M 100 r b.1 with
      | some n => (match g_v n with
        | some w => if (List.range (b.2 - b.1 + 1).toNat).all (fun k : Nat => match sv_al sg M 100 r (b.1 + (k : Int)) with
            | some n => g_is n w
            | none => false) then some w else none
        | none => none)
      | none => none) else none
    | none => none)
  | _ => none
theorem g_eq_ok {ρ : Nat → Int} {sg : sG} {fg : eG} {M : sM} {μ : eM} {B : sB} {v : sV} {r : Nat} {w z : Int} (hg : sg_r ρ sg fg) (hm : sm_r ρ M μ) (hB : sb_in ρ B) (hv : sv_r ρ v (eI z)) (h : g_eq sg M B v r = some w) : ev_al fg μ 100 r z = some w := by
  unfold g_eq at h
  split at h
  · rename_i a
    split at h
    · rename_i b hb
      obtain ⟨z', e, h1⟩ := sc_b_ok hB hv hb
      cases e
      split at h
      · rename_i h0
        split at h
        · split at h
          · rename_i w' _
            split at h
            · rename_i hall
              cases h
              have h2 := List.all_eq_true.mp hall (z - b.1).toNat (List.mem_range.mpr (by omega))
              have hk : b.1 + ((z - b.1).toNat : Int) = z := by omega
              rw [hk] at h2
              split at h2
              · rename_i n hn
                have h3 := g_is_ok h2
                subst h3
                obtain ⟨x, h4, h5⟩ := sv_al_ok hg hm (by decide) hn
                have h5 : w = x := h5
                rw [h5]
                exact h4
              · cases h2
            · cases h
          · cases h
        · cases h
      · cases h
    · cases h
  · cases h
noncomputable def g_al (sg : sG) : sR := fun B S => match ((dt_co S.2.1.1).get S.2.1.2.1), S.2.1.2.2.2 with
  | (p, .iaload, n, _, _), v :: .inl (.inr (.inr r)) :: s => if p = S.2.1.2.1 then (match g_eq sg S.2.2.2 B v r with
    | some w => some [(B, (S.1, (S.2.1.1, S.2.1.2.1 + n, S.2.1.2.2.1, .inl (eI w) :: s), S.2.2.1, S.2.2.2))]
    | none => none) else none
  | _, _ => none
theorem g_eq_int {sg : sG} {M : sM} {B : sB} {v : sV} {r : Nat} {w : Int} (h : g_eq sg M B v r = some w) : sv_ty v = 0 := by
  unfold g_eq at h
  split at h
  · rfl
  · cases h
theorem g_al_ok {sg : sG} {fg : eG} {rc rs : Nat} {ρ : Nat → Int} (hg : sg_r ρ sg fg) : sr_ok sg fg rc rs ρ (g_al sg) := by
  intro B S l E h hB hS hq
  obtain ⟨d, ⟨y, pc, lv, st⟩, F, M⟩ := S
  obtain ⟨d', ⟨y', pc', elv, est⟩, eF', μ⟩ := E
  obtain ⟨e1, ⟨e2, e3, hl, hs⟩, hF, hm⟩ := hS
  dsimp only at e1 e2 e3 hl hs hF hm
  subst e1
  subst e2
  subst e3
  unfold g_al at h
  dsimp only at h
  split at h
  · rename_i p n z x v r s hrow
    split at h
    · rename_i hp
      subst hp
      split at h
      · rename_i w hw
        cases h
        obtain ⟨e, u, vs, rfl, k1, k2, k3⟩ := sl_r_2 hs
        have k2 : eR r = u := k2
        subst k2
        obtain ⟨i, rfl⟩ := sv_ty0 k1 (g_eq_int hw)
        have hal := g_eq_ok hg hm hB k1 hw
        obtain ⟨a, b, t, pl⟩ := z
        refine ex_fine_1 (xs_m (st' := eI w :: vs) (μ' := μ) hrow rfl ?_) ?_
        · simp only [ev_m, hal]
        · exact hq _ (List.mem_singleton.mpr rfl) _ hB ⟨rfl, ⟨rfl, rfl, hl, rfl, k3⟩, hF, hm⟩
      · cases h
    · cases h
  · cases h
/-- a switch by a number of the script that lies within its bounds or not -/
noncomputable def g_sw : sR := fun B S => match ((dt_co S.2.1.1).get S.2.1.2.1), S.2.1.2.2.2 with
  | (p, .tableswitch df lo hi _, _, _, _), .inr (.inl (.inl i)) :: s => (match B[i]? with
    | some b => if p = S.2.1.2.1 ∧ 0 ≤ (p : Int) + df ∧ -2147483648 ≤ b.1 ∧ b.2 ≤ 2147483647 ∧ (b.1 < lo ∨ hi < b.2) then some [(B.set i (b.1, min b.2 (lo - 1)), (S.1, (S.2.1.1, ((p : Int) + df).toNat, S.2.1.2.2.1, s), S.2.2.1, S.2.2.2)), (B.set i (max b.1 (hi + 1), b.2), (S.1, (S.2.1.1, ((p : Int) + df).toNat, S.2.1.2.2.1, s), S.2.2.1, S.2.2.2)), (B.set i (max b.1 lo, min b.2 hi), S)] else none
    | none => none)
  | _, _ => none
theorem g_sw_ok {sg : sG} {fg : eG} {rc rs : Nat} {ρ : Nat → Int} : sr_ok sg fg rc rs ρ g_sw := by
  intro B S l E h hB hS hq
  obtain ⟨d, ⟨y, pc, lv, st⟩, F, M⟩ := S
  obtain ⟨d', ⟨y', pc', elv, est⟩, eF', μ⟩ := E
  have hS0 := hS
  obtain ⟨e1, ⟨e2, e3, hl, hs⟩, hF, hm⟩ := hS
  dsimp only at e1 e2 e3 hl hs hF hm
  subst e1
  subst e2
  subst e3
  unfold g_sw at h
  dsimp only at h
  split at h
  · rename_i p df lo hi offs n z x i s hrow
    split at h
    · rename_i b hb
      split at h
      · rename_i h0
        obtain ⟨hp, h1, h2, h3, -⟩ := h0
        subst hp
        cases h
        obtain ⟨e, vs, rfl, k1, k2⟩ := sl_r_1 hs
        obtain ⟨v, rfl⟩ := sv_ty0 k1 rfl
        have hv : v = ρ i := k1
        have hb2 := hB i _ hb
        have hw : ev_w v = v := ev_w_in (by omega) (by omega)
        have out : ev_w v < lo ∨ hi < ev_w v → ev_j (.tableswitch df lo hi offs) n p (eI v :: vs) = some (((p : Int) + df).toNat, vs) := by
          intro ho
          show ev_tab df lo hi offs p v vs = _
          unfold ev_tab
          rw [if_pos ho]
          unfold ev_b
          rw [if_pos h1, if_pos True.intro]
        by_cases c1 : v < lo
        · refine ex_fine_1 (xs_j hrow rfl (out (Or.inl (by omega)))) ?_
          exact hq _ (List.mem_cons_self) _ (sb_in_set hB (by omega) (by omega)) ⟨rfl, ⟨rfl, rfl, hl, k2⟩, hF, hm⟩
        · by_cases c2 : hi < v
          · refine ex_fine_1 (xs_j hrow rfl (out (Or.inr (by omega)))) ?_
            exact hq _ (List.mem_cons_of_mem _ List.mem_cons_self) _ (sb_in_set hB (by omega) (by omega)) ⟨rfl, ⟨rfl, rfl, hl, k2⟩, hF, hm⟩
          · exact hq _ (List.mem_cons_of_mem _ (List.mem_cons_of_mem _ List.mem_cons_self)) _ (sb_in_set hB (by omega) (by omega)) hS0
      · cases h
    · cases h
  · cases h
/-- all of them -/
noncomputable def dt_g (sg : sG) : sR := fun B S => match g_al sg B S with
  | some l => some l
  | none => (match g_cz B S with
    | some l => some l
    | none => g_sw B S)
theorem dt_g_ok {sg : sG} {fg : eG} {rc rs : Nat} {ρ : Nat → Int} (hg : sg_r ρ sg fg) : sr_ok sg fg rc rs ρ (dt_g sg) := by
  intro B S l E h hB hS hq
  unfold dt_g at h
  split at h
  · rename_i l9 hl9
    cases h
    exact g_al_ok hg B S _ E hl9 hB hS hq
  · split at h
    · rename_i l9 hl9
      cases h
      exact g_cz_ok (sg := sg) B S _ E hl9 hB hS hq
    · exact g_sw_ok (sg := sg) B S _ E h hB hS hq
