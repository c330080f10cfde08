/-! RENAMING: a run in a small memory is a run in a memory that holds its cells under other numbers -/
def fV (ρ : Nat → Nat) : eV → eV
  | .inr (.inr r) => eR (ρ r)
  | v => v
abbrev fS (ρ : Nat → Nat) (st : List eV) : List eV := st.map (fV ρ)
abbrev fL (ρ : Nat → Nat) (lv : List (Option eV)) : List (Option eV) := lv.map (Option.map (fV ρ))
theorem fV_cat (ρ : Nat → Nat) (v : eV) : ev_cat (fV ρ v) = ev_cat v := by rcases v with (x | x) | ((x | x) | x) <;> rfl
/-- a reference that is known -/
def kV (D : Nat → Prop) : eV → Prop
  | .inr (.inr r) => r < 64 ∨ D r
  | _ => True
def kS (D : Nat → Prop) (st : List eV) : Prop := ∀ v ∈ st, kV D v
def kL (D : Nat → Prop) (lv : List (Option eV)) : Prop := ∀ v, some v ∈ lv → kV D v
theorem kS_c {D : Nat → Prop} {v : eV} {st : List eV} (h : kV D v) (h2 : kS D st) : kS D (v :: st) := by
  intro w hw
  rcases List.mem_cons.mp hw with q | q
  · rw [q]
    exact h
  · exact h2 w q
theorem kS_t {D : Nat → Prop} {v : eV} {st : List eV} (h : kS D (v :: st)) : kS D st := fun w hw => h w (List.mem_cons_of_mem _ hw)
theorem kS_h {D : Nat → Prop} {v : eV} {st : List eV} (h : kS D (v :: st)) : kV D v := h v List.mem_cons_self
theorem rn_cl (ρ : Nat → Nat) (lv : List (Option eV)) (i : Nat) : ev_cl (fL ρ lv) i = fL ρ (ev_cl lv i) := by
  unfold ev_cl
  cases i with
  | zero => rfl
  | succ j =>
    dsimp only
    rw [List.getElem?_map]
    cases h : lv[j]? with
    | none => rfl
    | some o =>
      cases o with
      | none => rfl
      | some v =>
        show (if ev_cat (fV ρ v) = 2 then (fL ρ lv).set j none else fL ρ lv) = fL ρ (if ev_cat v = 2 then lv.set j none else lv)
        rw [fV_cat]
        split
        · rw [show fL ρ (lv.set j none) = (fL ρ lv).set j none from List.map_set]
        · rfl
theorem rn_st1 (ρ : Nat → Nat) (lv : List (Option eV)) (i : Nat) (v : eV) : ev_st1 (fL ρ lv) i (fV ρ v) = fL ρ (ev_st1 lv i v) := by
  unfold ev_st1
  rw [rn_cl]
  exact (List.map_set (f := Option.map (fV ρ)) (a := some v)).symm
theorem rn_st2 (ρ : Nat → Nat) (lv : List (Option eV)) (i : Nat) (v : eV) : ev_st2 (fL ρ lv) i (fV ρ v) = fL ρ (ev_st2 lv i v) := by
  unfold ev_st2
  rw [rn_cl, show fL ρ (((ev_cl lv i).set i (some v)).set (i + 1) none) = (fL ρ ((ev_cl lv i).set i (some v))).set (i + 1) none from List.map_set, show fL ρ ((ev_cl lv i).set i (some v)) = (fL ρ (ev_cl lv i)).set i (some (fV ρ v)) from List.map_set]
theorem kL_set {D : Nat → Prop} {lv : List (Option eV)} {i : Nat} {w : Option eV} (h : kL D lv) (hw : ∀ v, w = some v → kV D v) : kL D (lv.set i w) := by
  intro v hv
  rcases List.mem_or_eq_of_mem_set hv with q | q
  · exact h v q
  · exact hw v q.symm
theorem kL_cl {D : Nat → Prop} {lv : List (Option eV)} (i : Nat) (h : kL D lv) : kL D (ev_cl lv i) := by
  unfold ev_cl
  split
  · exact h
  · split
    · split
      · exact kL_set h (fun v q => by cases q)
      · exact h
    · exact h
theorem kL_st1 {D : Nat → Prop} {lv : List (Option eV)} {i : Nat} {w : eV} (h : kL D lv) (hw : kV D w) : kL D (ev_st1 lv i w) := kL_set (kL_cl i h) (fun v q => by cases q; exact hw)
theorem kL_st2 {D : Nat → Prop} {lv : List (Option eV)} {i : Nat} {w : eV} (h : kL D lv) (hw : kV D w) : kL D (ev_st2 lv i w) := kL_set (kL_set (kL_cl i h) (fun v q => by cases q; exact hw)) (fun v q => by cases q)
abbrev rS (ρ : Nat → Nat) (D : Nat → Prop) (X : List (Option eV) → List eV → Option (List (Option eV) × List eV)) : Prop := ∀ (lv : List (Option eV)) (st : List eV) (z : List (Option eV) × List eV), X lv st = some z → X (fL ρ lv) (fS ρ st) = some (fL ρ z.1, fS ρ z.2) ∧ (kS D st → kL D lv → kS D z.2 ∧ kL D z.1)
/-- a value that is none of references -/
def nR : eV → Prop
  | .inr (.inr _) => False
  | _ => True
theorem nR_f {ρ : Nat → Nat} {v : eV} (h : nR v) : fV ρ v = v := by
  rcases v with (x | x) | ((x | x) | x)
  · rfl
  · rfl
  · rfl
  · rfl
  · exact absurd h id
theorem nR_k {D : Nat → Prop} {v : eV} (h : nR v) : kV D v := by
  rcases v with (x | x) | ((x | x) | x)
  · exact True.intro
  · exact True.intro
  · exact True.intro
  · exact True.intro
  · exact absurd h id
theorem rn_bII {ρ : Nat → Nat} {D : Nat → Prop} {g : Int → Int → Option eV} (hg : ∀ x y w, g x y = some w → nR w) : rS ρ D (ev_bII g) := by
  intro lv st z h
  obtain ⟨x, y, r, w, rfl, hw, h1, h2⟩ := ev_bII_ok (lv' := z.1) (st' := z.2) h
  rw [← h1, ← h2]
  have h3 := hg _ _ _ hw
  refine ⟨?_, fun k1 k2 => ⟨kS_c (nR_k h3) (kS_t (kS_t k1)), k2⟩⟩
  show (g x y).map (fun w => (fL ρ lv, w :: fS ρ r)) = some (fL ρ lv, fV ρ w :: fS ρ r)
  rw [hw, nR_f h3]
  rfl
theorem rn_bJJ {ρ : Nat → Nat} {D : Nat → Prop} {g : Int → Int → Option eV} (hg : ∀ x y w, g x y = some w → nR w) : rS ρ D (ev_bJJ g) := by
  intro lv st z h
  obtain ⟨x, y, r, w, rfl, hw, h1, h2⟩ := ev_bJJ_ok (lv' := z.1) (st' := z.2) h
  rw [← h1, ← h2]
  have h3 := hg _ _ _ hw
  refine ⟨?_, fun k1 k2 => ⟨kS_c (nR_k h3) (kS_t (kS_t k1)), k2⟩⟩
  show (g x y).map (fun w => (fL ρ lv, w :: fS ρ r)) = some (fL ρ lv, fV ρ w :: fS ρ r)
  rw [hw, nR_f h3]
  rfl
theorem rn_bJI {ρ : Nat → Nat} {D : Nat → Prop} {g : Int → Int → Option eV} (hg : ∀ x y w, g x y = some w → nR w) : rS ρ D (ev_bJI g) := by
  intro lv st z h
  obtain ⟨x, y, r, w, rfl, hw, h1, h2⟩ := ev_bJI_ok (lv' := z.1) (st' := z.2) h
  rw [← h1, ← h2]
  have h3 := hg _ _ _ hw
  refine ⟨?_, fun k1 k2 => ⟨kS_c (nR_k h3) (kS_t (kS_t k1)), k2⟩⟩
  show (g x y).map (fun w => (fL ρ lv, w :: fS ρ r)) = some (fL ρ lv, fV ρ w :: fS ρ r)
  rw [hw, nR_f h3]
  rfl
theorem rn_bDD {ρ : Nat → Nat} {D : Nat → Prop} {g : UInt64 → UInt64 → Option eV} (hg : ∀ x y w, g x y = some w → nR w) : rS ρ D (ev_bDD g) := by
  intro lv st z h
  obtain ⟨x, y, r, w, rfl, hw, h1, h2⟩ := ev_bDD_ok (lv' := z.1) (st' := z.2) h
  rw [← h1, ← h2]
  have h3 := hg _ _ _ hw
  refine ⟨?_, fun k1 k2 => ⟨kS_c (nR_k h3) (kS_t (kS_t k1)), k2⟩⟩
  show (g x y).map (fun w => (fL ρ lv, w :: fS ρ r)) = some (fL ρ lv, fV ρ w :: fS ρ r)
  rw [hw, nR_f h3]
  rfl
theorem rn_bFF {ρ : Nat → Nat} {D : Nat → Prop} {g : UInt32 → UInt32 → Option eV} (hg : ∀ x y w, g x y = some w → nR w) : rS ρ D (ev_bFF g) := by
  intro lv st z h
  obtain ⟨x, y, r, w, rfl, hw, h1, h2⟩ := ev_bFF_ok (lv' := z.1) (st' := z.2) h
  rw [← h1, ← h2]
  have h3 := hg _ _ _ hw
  refine ⟨?_, fun k1 k2 => ⟨kS_c (nR_k h3) (kS_t (kS_t k1)), k2⟩⟩
  show (g x y).map (fun w => (fL ρ lv, w :: fS ρ r)) = some (fL ρ lv, fV ρ w :: fS ρ r)
  rw [hw, nR_f h3]
  rfl
theorem rn_uI {ρ : Nat → Nat} {D : Nat → Prop} {g : Int → Option eV} (hg : ∀ x w, g x = some w → nR w) : rS ρ D (ev_uI g) := by
  intro lv st z h
  obtain ⟨x, r, w, rfl, hw, h1, h2⟩ := ev_uI_ok (lv' := z.1) (st' := z.2) h
  rw [← h1, ← h2]
  have h3 := hg _ _ hw
  refine ⟨?_, fun k1 k2 => ⟨kS_c (nR_k h3) (kS_t k1), k2⟩⟩
  show (g x).map (fun w => (fL ρ lv, w :: fS ρ r)) = some (fL ρ lv, fV ρ w :: fS ρ r)
  rw [hw, nR_f h3]
  rfl
theorem rn_uJ {ρ : Nat → Nat} {D : Nat → Prop} {g : Int → Option eV} (hg : ∀ x w, g x = some w → nR w) : rS ρ D (ev_uJ g) := by
  intro lv st z h
  obtain ⟨x, r, w, rfl, hw, h1, h2⟩ := ev_uJ_ok (lv' := z.1) (st' := z.2) h
  rw [← h1, ← h2]
  have h3 := hg _ _ hw
  refine ⟨?_, fun k1 k2 => ⟨kS_c (nR_k h3) (kS_t k1), k2⟩⟩
  show (g x).map (fun w => (fL ρ lv, w :: fS ρ r)) = some (fL ρ lv, fV ρ w :: fS ρ r)
  rw [hw, nR_f h3]
  rfl
theorem rn_uD {ρ : Nat → Nat} {D : Nat → Prop} {g : UInt64 → Option eV} (hg : ∀ x w, g x = some w → nR w) : rS ρ D (ev_uD g) := by
  intro lv st z h
  obtain ⟨x, r, w, rfl, hw, h1, h2⟩ := ev_uD_ok (lv' := z.1) (st' := z.2) h
  rw [← h1, ← h2]
  have h3 := hg _ _ hw
  refine ⟨?_, fun k1 k2 => ⟨kS_c (nR_k h3) (kS_t k1), k2⟩⟩
  show (g x).map (fun w => (fL ρ lv, w :: fS ρ r)) = some (fL ρ lv, fV ρ w :: fS ρ r)
  rw [hw, nR_f h3]
  rfl
theorem rn_uF {ρ : Nat → Nat} {D : Nat → Prop} {g : UInt32 → Option eV} (hg : ∀ x w, g x = some w → nR w) : rS ρ D (ev_uF g) := by
  intro lv st z h
  obtain ⟨x, r, w, rfl, hw, h1, h2⟩ := ev_uF_ok (lv' := z.1) (st' := z.2) h
  rw [← h1, ← h2]
  have h3 := hg _ _ hw
  refine ⟨?_, fun k1 k2 => ⟨kS_c (nR_k h3) (kS_t k1), k2⟩⟩
  show (g x).map (fun w => (fL ρ lv, w :: fS ρ r)) = some (fL ρ lv, fV ρ w :: fS ρ r)
  rw [hw, nR_f h3]
  rfl
theorem rn_ldI {ρ : Nat → Nat} {D : Nat → Prop} (k : Nat) : rS ρ D (fun lv st => ev_ldI lv k st) := by
  intro lv st z h
  obtain ⟨x, hx, h1, h2⟩ := ev_ldI_ok (lv' := z.1) (st' := z.2) h
  rw [← h1, ← h2]
  refine ⟨?_, fun k1 k2 => ⟨kS_c True.intro k1, k2⟩⟩
  show ev_ldI (fL ρ lv) k (fS ρ st) = _
  unfold ev_ldI
  rw [List.getElem?_map, hx]
  rfl
theorem rn_srI {ρ : Nat → Nat} {D : Nat → Prop} (k : Nat) : rS ρ D (fun lv st => ev_srI lv k st) := by
  intro lv st z h
  obtain ⟨x, r, rfl, hx, h1, h2⟩ := ev_srI_ok (lv' := z.1) (st' := z.2) h
  rw [← h1, ← h2]
  refine ⟨?_, fun k1 k2 => ⟨kS_t k1, kL_st1 k2 True.intro⟩⟩
  show (if _ then some (ev_st1 (fL ρ lv) k (fV ρ (eI x)), fS ρ r) else none) = _
  rw [rn_st1, if_pos (by rw [List.length_map]; exact hx)]
theorem rn_ldJ {ρ : Nat → Nat} {D : Nat → Prop} (k : Nat) : rS ρ D (fun lv st => ev_ldJ lv k st) := by
  intro lv st z h
  obtain ⟨x, hx, h1, h2⟩ := ev_ldJ_ok (lv' := z.1) (st' := z.2) h
  rw [← h1, ← h2]
  refine ⟨?_, fun k1 k2 => ⟨kS_c True.intro k1, k2⟩⟩
  show ev_ldJ (fL ρ lv) k (fS ρ st) = _
  unfold ev_ldJ
  rw [List.getElem?_map, hx]
  rfl
theorem rn_srJ {ρ : Nat → Nat} {D : Nat → Prop} (k : Nat) : rS ρ D (fun lv st => ev_srJ lv k st) := by
  intro lv st z h
  obtain ⟨x, r, rfl, hx, h1, h2⟩ := ev_srJ_ok (lv' := z.1) (st' := z.2) h
  rw [← h1, ← h2]
  refine ⟨?_, fun k1 k2 => ⟨kS_t k1, kL_st2 k2 True.intro⟩⟩
  show (if _ then some (ev_st2 (fL ρ lv) k (fV ρ (eJ x)), fS ρ r) else none) = _
  rw [rn_st2, if_pos (by rw [List.length_map]; exact hx)]
theorem rn_ldF {ρ : Nat → Nat} {D : Nat → Prop} (k : Nat) : rS ρ D (fun lv st => ev_ldF lv k st) := by
  intro lv st z h
  obtain ⟨x, hx, h1, h2⟩ := ev_ldF_ok (lv' := z.1) (st' := z.2) h
  rw [← h1, ← h2]
  refine ⟨?_, fun k1 k2 => ⟨kS_c True.intro k1, k2⟩⟩
  show ev_ldF (fL ρ lv) k (fS ρ st) = _
  unfold ev_ldF
  rw [List.getElem?_map, hx]
  rfl
theorem rn_ldD {ρ : Nat → Nat} {D : Nat → Prop} (k : Nat) : rS ρ D (fun lv st => ev_ldD lv k st) := by
  intro lv st z h
  obtain ⟨x, hx, h1, h2⟩ := ev_ldD_ok (lv' := z.1) (st' := z.2) h
  rw [← h1, ← h2]
  refine ⟨?_, fun k1 k2 => ⟨kS_c True.intro k1, k2⟩⟩
  show ev_ldD (fL ρ lv) k (fS ρ st) = _
  unfold ev_ldD
  rw [List.getElem?_map, hx]
  rfl
theorem rn_srD {ρ : Nat → Nat} {D : Nat → Prop} (k : Nat) : rS ρ D (fun lv st => ev_srD lv k st) := by
  intro lv st z h
  obtain ⟨x, r, rfl, hx, h1, h2⟩ := ev_srD_ok (lv' := z.1) (st' := z.2) h
  rw [← h1, ← h2]
  refine ⟨?_, fun k1 k2 => ⟨kS_t k1, kL_st2 k2 True.intro⟩⟩
  show (if _ then some (ev_st2 (fL ρ lv) k (fV ρ (eD x)), fS ρ r) else none) = _
  rw [rn_st2, if_pos (by rw [List.length_map]; exact hx)]
theorem rn_ldR {ρ : Nat → Nat} {D : Nat → Prop} (hρ : ∀ r, ρ r = 0 ↔ r = 0) (k : Nat) : rS ρ D (fun lv st => ev_ldR lv k st) := by
  intro lv st z h
  obtain ⟨x, hx, h0, h1, h2⟩ := ev_ldR_ok (lv' := z.1) (st' := z.2) h
  rw [← h1, ← h2]
  refine ⟨?_, fun k1 k2 => ⟨kS_c (k2 _ (List.mem_of_getElem? hx)) k1, k2⟩⟩
  show ev_ldR (fL ρ lv) k (fS ρ st) = _
  unfold ev_ldR
  rw [List.getElem?_map, hx]
  show (if 0 < ρ x then some (fL ρ lv, eR (ρ x) :: fS ρ st) else none) = _
  rw [if_pos (by have := hρ x; omega)]
  rfl
theorem rn_srR {ρ : Nat → Nat} {D : Nat → Prop} (hρ : ∀ r, ρ r = 0 ↔ r = 0) (k : Nat) : rS ρ D (fun lv st => ev_srR lv k st) := by
  intro lv st z h
  obtain ⟨x, r, rfl, hx, h1, h2⟩ := ev_srR_ok (lv' := z.1) (st' := z.2) h
  rw [← h1, ← h2]
  refine ⟨?_, fun k1 k2 => ⟨kS_t k1, kL_st1 k2 (kS_h k1)⟩⟩
  show (if k < (fL ρ lv).length ∧ 0 < ρ x then some (ev_st1 (fL ρ lv) k (fV ρ (eR x)), fS ρ r) else none) = _
  rw [rn_st1, if_pos ⟨by rw [List.length_map]; exact hx.1, by have := hρ x; omega⟩]
theorem rn_inc {ρ : Nat → Nat} {D : Nat → Prop} (k : Nat) (n : Int) : rS ρ D (fun lv st => ev_inc lv k n st) := by
  intro lv st z h
  obtain ⟨x, hx, h1, h2⟩ := ev_inc_ok (lv' := z.1) (st' := z.2) h
  rw [← h1, ← h2]
  refine ⟨?_, fun k1 k2 => ⟨k1, kL_st1 k2 True.intro⟩⟩
  show ev_inc (fL ρ lv) k n (fS ρ st) = _
  unfold ev_inc
  rw [List.getElem?_map, hx]
  show some (ev_st1 (fL ρ lv) k (fV ρ (eI (ev_w (x + n)))), fS ρ st) = _
  rw [rn_st1]
theorem rn_stk {ρ : Nat → Nat} {D : Nat → Prop} (n : Nat) : rS ρ D (fun lv st => ev_stk n lv st) := by
  intro lv st z h
  replace h : ev_stk n lv st = some z := h
  show ev_stk n (fL ρ lv) (fS ρ st) = _ ∧ _
  unfold ev_stk at h
  split at h
  · rename_i v r
    split at h
    · rename_i hc
      cases h
      refine ⟨?_, fun k1 k2 => ⟨kS_c (kS_h k1) k1, k2⟩⟩
      show (if ev_cat (fV ρ v) = 1 then some (fL ρ lv, fV ρ v :: fV ρ v :: fS ρ r) else none) = _
      rw [fV_cat, if_pos hc]
      rfl
    · cases h
  · rename_i v w r
    split at h
    · rename_i hc
      cases h
      refine ⟨?_, fun k1 k2 => ⟨kS_c (kS_h k1) (kS_c (kS_h (kS_t k1)) k1), k2⟩⟩
      show (if ev_cat (fV ρ v) = 1 ∧ ev_cat (fV ρ w) = 1 then some (fL ρ lv, fV ρ v :: fV ρ w :: fV ρ v :: fV ρ w :: fS ρ r) else none) = _
      rw [fV_cat, fV_cat, if_pos hc]
      rfl
    · cases h
  · rename_i v r
    split at h
    · rename_i hc
      cases h
      refine ⟨?_, fun k1 k2 => ⟨kS_t k1, k2⟩⟩
      show (if ev_cat (fV ρ v) = 1 then some (fL ρ lv, fS ρ r) else none) = _
      rw [fV_cat, if_pos hc]
    · cases h
  · cases h
theorem rn_p2 {ρ : Nat → Nat} {D : Nat → Prop} : rS ρ D (fun lv st => ev_p2 lv st) := by
  intro lv st z h
  replace h : ev_p2 lv st = some z := h
  show ev_p2 (fL ρ lv) (fS ρ st) = _ ∧ _
  unfold ev_p2 at h
  split at h
  · rename_i v r
    split at h
    · rename_i hc
      cases h
      refine ⟨?_, fun k1 k2 => ⟨kS_t k1, k2⟩⟩
      show (if ev_cat (fV ρ v) = 2 then some (fL ρ lv, fS ρ r) else none) = _
      rw [fV_cat, if_pos hc]
    · cases h
  · cases h
theorem rn_psh {ρ : Nat → Nat} {D : Nat → Prop} {v : eV} (h : nR v) : rS ρ D (fun lv st => some (lv, v :: st)) := by
  intro lv st z hz
  cases hz
  refine ⟨?_, fun k1 k2 => ⟨kS_c (nR_k h) k1, k2⟩⟩
  show some (fL ρ lv, v :: fS ρ st) = some (fL ρ lv, fV ρ v :: fS ρ st)
  rw [nR_f h]
set_option maxHeartbeats 8000000 in
theorem rn_s {ρ : Nat → Nat} {D : Nat → Prop} (hρ : ∀ r, ρ r = 0 ↔ r = 0) (i : Instr) : rS ρ D (ev_s i) := by
  intro lv st z h
  cases i
  case iconst n => exact rn_psh (by exact True.intro) lv st z h
  case bipush n =>
    simp only [ev_s] at h ⊢
    split at h
    · rename_i h0
      rw [if_pos h0]
      exact rn_psh (by exact True.intro) lv st z h
    · cases h
  case sipush n =>
    simp only [ev_s] at h ⊢
    split at h
    · rename_i h0
      rw [if_pos h0]
      exact rn_psh (by exact True.intro) lv st z h
    · cases h
  case lconst n => exact rn_psh (by exact True.intro) lv st z h
  case fconst n =>
    simp only [ev_s] at h ⊢
    split at h
    · rename_i h0
      rw [if_pos h0]
      exact rn_psh (by exact True.intro) lv st z h
    · cases h
  case dconst n =>
    simp only [ev_s] at h ⊢
    split at h
    · rename_i h0
      rw [if_pos h0]
      exact rn_psh (by exact True.intro) lv st z h
    · cases h
  case iload k => exact rn_ldI k lv st z h
  case iload_n k => exact rn_ldI k.val lv st z h
  case lload k => exact rn_ldJ k lv st z h
  case lload_n k => exact rn_ldJ k.val lv st z h
  case fload k => exact rn_ldF k lv st z h
  case fload_n k => exact rn_ldF k.val lv st z h
  case dload k => exact rn_ldD k lv st z h
  case dload_n k => exact rn_ldD k.val lv st z h
  case aload k => exact rn_ldR hρ k lv st z h
  case aload_n k => exact rn_ldR hρ k.val lv st z h
  case istore k => exact rn_srI k lv st z h
  case istore_n k => exact rn_srI k.val lv st z h
  case lstore k => exact rn_srJ k lv st z h
  case lstore_n k => exact rn_srJ k.val lv st z h
  case dstore k => exact rn_srD k lv st z h
  case dstore_n k => exact rn_srD k.val lv st z h
  case astore k => exact rn_srR hρ k lv st z h
  case astore_n k => exact rn_srR hρ k.val lv st z h
  case iinc k n => exact rn_inc k n lv st z h
  case iadd => exact rn_bII (fun x y w hw => by cases hw; exact True.intro) lv st z h
  case isub => exact rn_bII (fun x y w hw => by cases hw; exact True.intro) lv st z h
  case imul => exact rn_bII (fun x y w hw => by cases hw; exact True.intro) lv st z h
  case ladd => exact rn_bJJ (fun x y w hw => by cases hw; exact True.intro) lv st z h
  case lsub => exact rn_bJJ (fun x y w hw => by cases hw; exact True.intro) lv st z h
  case lmul => exact rn_bJJ (fun x y w hw => by cases hw; exact True.intro) lv st z h
  case ineg => exact rn_uI (fun x w hw => by cases hw; exact True.intro) lv st z h
  case iand => exact rn_bII (fun x y w hw => by cases hw; exact True.intro) lv st z h
  case ior => exact rn_bII (fun x y w hw => by cases hw; exact True.intro) lv st z h
  case ixor => exact rn_bII (fun x y w hw => by cases hw; exact True.intro) lv st z h
  case ishl => exact rn_bII (fun x y w hw => by cases hw; exact True.intro) lv st z h
  case ishr => exact rn_bII (fun x y w hw => by cases hw; exact True.intro) lv st z h
  case iushr => exact rn_bII (fun x y w hw => by cases hw; exact True.intro) lv st z h
  case land => exact rn_bJJ (fun x y w hw => by cases hw; exact True.intro) lv st z h
  case lor => exact rn_bJJ (fun x y w hw => by cases hw; exact True.intro) lv st z h
  case lxor => exact rn_bJJ (fun x y w hw => by cases hw; exact True.intro) lv st z h
  case lshl => exact rn_bJI (fun x y w hw => by cases hw; exact True.intro) lv st z h
  case lshr => exact rn_bJI (fun x y w hw => by cases hw; exact True.intro) lv st z h
  case lushr => exact rn_bJI (fun x y w hw => by cases hw; exact True.intro) lv st z h
  case idiv => exact rn_bII (fun x y w hw => by split at hw <;> cases hw <;> exact True.intro) lv st z h
  case irem => exact rn_bII (fun x y w hw => by split at hw <;> cases hw <;> exact True.intro) lv st z h
  case lcmp => exact rn_bJJ (fun x y w hw => by cases hw; exact True.intro) lv st z h
  case i2l => exact rn_uI (fun x w hw => by cases hw; exact True.intro) lv st z h
  case l2i => exact rn_uJ (fun x w hw => by cases hw; exact True.intro) lv st z h
  case i2b => exact rn_uI (fun x w hw => by cases hw; exact True.intro) lv st z h
  case i2s => exact rn_uI (fun x w hw => by cases hw; exact True.intro) lv st z h
  case i2d => exact rn_uI (fun x w hw => by cases hw; exact True.intro) lv st z h
  case d2i => exact rn_uD (fun x w hw => by cases hw; exact True.intro) lv st z h
  case fneg => exact rn_uF (fun x w hw => by cases hw; exact True.intro) lv st z h
  case fcmp o => exact rn_bFF (fun x y w hw => by cases hw; exact True.intro) lv st z h
  case dcmp o => exact rn_bDD (fun x y w hw => by cases hw; exact True.intro) lv st z h
  case dadd => exact rn_bDD (fun x y w hw => by split at hw <;> cases hw <;> exact True.intro) lv st z h
  case dsub => exact rn_bDD (fun x y w hw => by split at hw <;> cases hw <;> exact True.intro) lv st z h
  case dmul => exact rn_bDD (fun x y w hw => by split at hw <;> cases hw <;> exact True.intro) lv st z h
  case ddiv => exact rn_bDD (fun x y w hw => by split at hw <;> cases hw <;> exact True.intro) lv st z h
  case d2f => exact rn_uD (fun x w hw => by split at hw <;> cases hw <;> exact True.intro) lv st z h
  case f2d => exact rn_uF (fun x w hw => by split at hw <;> cases hw <;> exact True.intro) lv st z h
  case dup => exact rn_stk 0 lv st z h
  case dup2 => exact rn_stk 1 lv st z h
  case pop => exact rn_stk 2 lv st z h
  case pop2 => exact rn_p2 lv st z h
  all_goals (cases h)
/-! branches -/
theorem rn_b {ρ : Nat → Nat} {pc : Nat} {off : Int} {b b' : Prop} [Decidable b] [Decidable b'] (hb : b' ↔ b) {r : List eV} {z : Nat × List eV} (h : ev_b pc off b r = some z) : ev_b pc off b' (fS ρ r) = some (z.1, fS ρ z.2) ∧ z.2 = r := by
  unfold ev_b at h ⊢
  split at h
  · rename_i h0
    rw [if_pos h0]
    split at h
    · rename_i h1
      cases h
      rw [if_pos (hb.mpr h1)]
      exact ⟨rfl, rfl⟩
    · rename_i h1
      cases h
      rw [if_neg (fun q => h1 (hb.mp q))]
      exact ⟨rfl, rfl⟩
  · cases h
theorem rn_j {ρ : Nat → Nat} {D : Nat → Prop} (hρ : ∀ r, ρ r = 0 ↔ r = 0) {i : Instr} {n pc : Nat} {st : List eV} {z : Nat × List eV} (h : ev_j i n pc st = some z) : ev_j i n pc (fS ρ st) = some (z.1, fS ρ z.2) ∧ (kS D st → kS D z.2) := by
  cases i
  case goto off =>
    simp only [ev_j] at h ⊢
    split at h
    · rename_i h0
      rw [if_pos h0]
      obtain ⟨h1, h2⟩ := rn_b (ρ := ρ) Iff.rfl h
      exact ⟨h1, fun k => by rw [h2]; exact k⟩
    · cases h
  case ifCond c off =>
    simp only [ev_j] at h
    split at h
    · rename_i x r
      split at h
      · rename_i h0
        show (if n = 3 then ev_if c pc off x (fS ρ r) else none) = _ ∧ _
        rw [if_pos h0]
        have h9 : ev_if c pc off x (fS ρ r) = some (z.1, fS ρ z.2) ∧ z.2 = r := by
          cases c <;> exact rn_b Iff.rfl h
        exact ⟨h9.1, fun k => by rw [h9.2]; exact kS_t k⟩
      · cases h
    · cases h
  case if_icmp c off =>
    simp only [ev_j] at h
    split at h
    · rename_i y x r
      split at h
      · rename_i h0
        show (if n = 3 then ev_ic c pc off x y (fS ρ r) else none) = _ ∧ _
        rw [if_pos h0]
        have h9 : ev_ic c pc off x y (fS ρ r) = some (z.1, fS ρ z.2) ∧ z.2 = r := by
          cases c <;> exact rn_b Iff.rfl h
        exact ⟨h9.1, fun k => by rw [h9.2]; exact kS_t (kS_t k)⟩
      · cases h
    · cases h
  case ifnonnull off =>
    simp only [ev_j] at h
    split at h
    · rename_i q r
      split at h
      · rename_i h0
        show (if n = 3 then ev_b pc off (¬ ρ q = 0) (fS ρ r) else none) = _ ∧ _
        rw [if_pos h0]
        obtain ⟨h1, h2⟩ := rn_b (ρ := ρ) (b' := ¬ ρ q = 0) (not_congr (hρ q)) h
        exact ⟨h1, fun k => by rw [h2]; exact kS_t k⟩
      · cases h
    · cases h
  case ifnull off =>
    simp only [ev_j] at h
    split at h
    · rename_i q r
      split at h
      · rename_i h0
        show (if n = 3 then ev_b pc off (ρ q = 0) (fS ρ r) else none) = _ ∧ _
        rw [if_pos h0]
        obtain ⟨h1, h2⟩ := rn_b (ρ := ρ) (b' := ρ q = 0) (hρ q) h
        exact ⟨h1, fun k => by rw [h2]; exact kS_t k⟩
      · cases h
    · cases h
  case tableswitch df lo hi offs =>
    simp only [ev_j] at h
    split at h
    · rename_i x r
      show ev_tab df lo hi offs pc x (fS ρ r) = _ ∧ _
      unfold ev_tab at h ⊢
      split at h
      · rename_i h0
        rw [if_pos h0]
        obtain ⟨h1, h2⟩ := rn_b (ρ := ρ) Iff.rfl h
        exact ⟨h1, fun k => by rw [h2]; exact kS_t k⟩
      · rename_i h0
        rw [if_neg h0]
        split at h
        · rename_i off hoff
          obtain ⟨h1, h2⟩ := rn_b (ρ := ρ) Iff.rfl h
          exact ⟨h1, fun k => by rw [h2]; exact kS_t k⟩
        · cases h
    · cases h
  all_goals (cases h)
