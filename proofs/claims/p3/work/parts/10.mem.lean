/-! THE SMALL MACHINE: the memory's instructions -/
theorem ev_r_own (k : eK) (j : Nat) : ev_r (ev_ad k) (j + 64) = .ref (k.1 + j) := by
  show Value.ref (ev_ad k (j + 64)) = _
  rw [ev_ad_new]
theorem ev_r_old {k : eK} {r : Nat} (h0 : 0 < r) (h : r < 64) : ev_r (ev_ad k) r = .ref (k.2.2.2.2 r) := by
  obtain ⟨q, rfl⟩ : ∃ q, r = q + 1 := ⟨r - 1, by omega⟩
  show Value.ref (ev_ad k (q + 1)) = _
  unfold ev_ad
  rw [if_pos h]
/-- the kind of a cell made in this run -/
def ev_kd (μ : eM) (r : Nat) : Option Nat := if r < 64 then none else (μ.2.1[r - 64]?).map fun q => q.1
theorem ev_kd_ok {μ : eM} {r kd : Nat} (h : ev_kd μ r = some kd) : ∃ j n : Nat, r = j + 64 ∧ μ.2.1[j]? = some (kd, n) := by
  unfold ev_kd at h
  split at h
  · cases h
  · rename_i h0
    cases hq : μ.2.1[r - 64]? with
    | none => rw [hq] at h; cases h
    | some q =>
      rw [hq] at h
      obtain ⟨a, n⟩ := q
      have h : some a = some kd := h
      cases h
      exact ⟨r - 64, n, by omega, hq⟩
theorem ev_cell_o {k : eK} {f : Nat → Int} {kd n : Nat} (h : kd < 100) : ev_cell k f kd n = .inr (kd, ev_fs (ev_ad k) (dt_lay kd) f) := by
  unfold ev_cell
  rw [if_pos h]
/-- what a field may hold -/
theorem ev_qv_ok {ad : Nat → Nat} {t : Nat} {v : eV} {x : Int} (h : ev_qv t v = some x) : ev_c ad v = ev_fv ad t x := by
  unfold ev_qv at h
  split at h
  · cases h
    rfl
  · split at h
    · cases h
      rfl
    · cases h
  · cases h
    rfl
  · cases h
    rename_i r
    show ev_r ad r = ev_r ad ((r : Int).toNat)
    rw [Int.toNat_natCast]
  · cases h
theorem ev_one (x : Int) : Int32.ofInt x = 1 ↔ ev_w x = 1 := by rw [← Int32.toInt_inj, ev_w_ok]; rfl
theorem ev_bool {x : Int} (h : ev_w x = 0 ∨ ev_w x = 1) : Int32.ofInt x = 0 ∨ Int32.ofInt x = 1 := h.imp (ev_eq0 x).mpr (ev_one x).mpr
theorem ev_nbool {x : Int} (h : ev_w x = 0 ∨ ev_w x = 1) : narrow .boolean (.int (Int32.ofInt x)) = .int (Int32.ofInt x) := by
  rcases ev_bool h with q | q <;> rw [q] <;> rfl
theorem ev_r_ref (ad : Nat → Nat) (r : Nat) : ev_r ad r = .null ∨ ∃ a, ev_r ad r = .ref a := by
  cases r with
  | zero => exact Or.inl rfl
  | succ r => exact Or.inr ⟨_, rfl⟩
theorem ev_qv1 {e : eV} {x : Int} (h : ev_qv 1 e = some x) : e = eI x ∧ (ev_w x = 0 ∨ ev_w x = 1) := by
  rcases e with (z | z) | ((z | z) | z)
  · have h : (if ev_w z = 0 ∨ ev_w z = 1 then some z else none) = some x := h
    split at h
    · rename_i h0
      cases h
      exact ⟨rfl, h0⟩
    · cases h
  · cases h
  · cases h
  · cases h
  · cases h
theorem ev_fit {ad : Nat → Nat} {t : Nat} {v : eV} {x : Int} {ty : FieldType} (h : ev_qv t v = some x) (ht : dt_tyk t ty = true) : narrow ty (ev_fv ad t x) = ev_fv ad t x ∧ fits ty (ev_fv ad t x) = true := by
  cases ty with
  | int =>
    have ht : (t == 0) = true := ht
    rw [beq_iff_eq] at ht
    subst ht
    exact ⟨rfl, rfl⟩
  | boolean =>
    have ht : (t == 1) = true := ht
    rw [beq_iff_eq] at ht
    subst ht
    have hb := (ev_qv1 h).2
    refine ⟨ev_nbool hb, ?_⟩
    show fits .boolean (.int (Int32.ofInt x)) = true
    rcases ev_bool hb with q | q <;> rw [q] <;> rfl
  | long =>
    have ht : (t == 2) = true := ht
    rw [beq_iff_eq] at ht
    subst ht
    exact ⟨rfl, rfl⟩
  | object C =>
    have ht : (t == 3) = true := ht
    rw [beq_iff_eq] at ht
    subst ht
    show narrow (.object C) (ev_r ad x.toNat) = ev_r ad x.toNat ∧ fits (.object C) (ev_r ad x.toNat) = true
    rcases ev_r_ref ad x.toNat with q | ⟨a, q⟩ <;> rw [q] <;> exact ⟨rfl, rfl⟩
  | array C =>
    have ht : (t == 3) = true := ht
    rw [beq_iff_eq] at ht
    subst ht
    show narrow (.array C) (ev_r ad x.toNat) = ev_r ad x.toNat ∧ fits (.array C) (ev_r ad x.toNat) = true
    rcases ev_r_ref ad x.toNat with q | ⟨a, q⟩ <;> rw [q] <;> exact ⟨rfl, rfl⟩
  | _ => cases ht
theorem ev_dflt {ad : Nat → Nat} {t : Nat} {ty : FieldType} (ht : dt_tyk t ty = true) : defaultValue ty = ev_fv ad t 0 := by
  cases ty with
  | int =>
    have ht : (t == 0) = true := ht
    rw [beq_iff_eq] at ht
    subst ht
    rfl
  | boolean =>
    have ht : (t == 1) = true := ht
    rw [beq_iff_eq] at ht
    subst ht
    rfl
  | long =>
    have ht : (t == 2) = true := ht
    rw [beq_iff_eq] at ht
    subst ht
    rfl
  | object C =>
    have ht : (t == 3) = true := ht
    rw [beq_iff_eq] at ht
    subst ht
    rfl
  | array C =>
    have ht : (t == 3) = true := ht
    rw [beq_iff_eq] at ht
    subst ht
    rfl
  | _ => cases ht
theorem ev_getf {p : Program} {l : Launch} {e : Env} {R : Room} {s : State} {m : MethodId} {args : Array Value} {below : List Frame} {meth : Method} {c : Code} {H : Heap} {locs : List Loc} {cells slots : Nat} {Q : State → Prop} {pc : Nat} {ls : Array Slot} {k : eK} {fg : eG} {y : Nat} {μ : eM} {rest : List Value} (X : ev_X k fg y p s m args meth c) (hcl : ∀ ci C T N, vwCl[ci]? = some (C, T, N) → dt_cls ci C T N) (hI : ev_I k μ s.heap H locs) {idx a b t d r : Nat} (hck : dt_fck (dt_nm y).cls idx a b t d = true) (hr : ev_kd μ r = some a) (hdg : decode (dt_by y) pc = .ok (.getfield idx, 3))
    (kk : W p l e R s m args below meth c H locs cells slots Q (F0 m (pc + 3) ls (ev_c (ev_ad k) (ev_pv t (μ.1 r b)) :: rest))) : W p l e R s m args below meth c H locs cells slots Q (F0 m pc ls (ev_r (ev_ad k) r :: rest)) := by
  obtain ⟨hx, hb, hml, hown, hts, hU, -⟩ := X
  obtain ⟨j, n, rfl, hj⟩ := ev_kd_ok hr
  obtain ⟨C, T, N, hc, hbN, ha, hl, hw⟩ := dt_fck_ok hck
  obtain ⟨hin, -⟩ := hcl _ _ _ _ hc
  rw [ev_pv_ok] at kk
  rw [ev_r_own]
  have hP := hI.1.one hj
  rw [ev_cell_o ha] at hP
  rcases hw with hw | ⟨q, hw⟩
  · exact va_get hx hb hts hin hown hU.1 hP 0 rfl hc b hbN (hts _ hw) (fun x h => h) (ev_fs_get hl) hdg kk
  · exact va_getN hx hb hts hin hown hU.1 hP 0 rfl hc b hbN (va_Nw.use rfl (hU.2.1 _ hw rfl)) (fun x h => h) (ev_fs_get hl) hdg kk
/-- a field that is put: not final, or one's own in a constructor -/
noncomputable def dt_pck (y a b d : Nat) : Bool := match vwCl[a]?, lw_tbl[d]? with
  | some (_, T, _), some (.fieldLink _ _ _ _ _) => !(T b).2.2.2 || (decide ((T b).1 = (dt_nm y).cls) && decide ((dt_nm y).name = "<init>"))
  | some (_, T, _), some _ => !(T b).2.2.2
  | _, _ => false
set_option maxHeartbeats 1000000 in
theorem ev_putf {p : Program} {l : Launch} {e : Env} {R : Room} {s : State} {m : MethodId} {args : Array Value} {below : List Frame} {meth : Method} {c : Code} {H : Heap} {locs : List Loc} {cells slots : Nat} {Q : State → Prop} {pc : Nat} {ls : Array Slot} {k : eK} {fg : eG} {y : Nat} {μ : eM} {rest : List Value} (X : ev_X k fg y p s m args meth c) (hcl : ∀ ci C T N, vwCl[ci]? = some (C, T, N) → dt_cls ci C T N) (hI : ev_I k μ s.heap H locs) {idx a b t d r : Nat} {v : eV} {x : Int} (hck : dt_fck (dt_nm y).cls idx a b t d = true) (hpk : dt_pck y a b d = true) (hr : ev_kd μ r = some a) (hv : ev_qv t v = some x) (hdg : decode (dt_by y) pc = .ok (.putfield idx, 3))
    (kk : ∀ (H1 : Heap) (locs1 : List Loc), ev_I k (ev_up μ.1 r b x, μ.2) s.heap H1 locs1 → W p l e R s m args below meth c H1 locs1 cells slots Q (F0 m (pc + 3) ls rest)) : W p l e R s m args below meth c H locs cells slots Q (F0 m pc ls (ev_c (ev_ad k) v :: ev_r (ev_ad k) r :: rest)) := by
  obtain ⟨hx, hb, hml, hown, hts, hU, hret, hlk, hnm9⟩ := X
  obtain ⟨j, n, rfl, hj⟩ := ev_kd_ok hr
  have hpk2 := hpk
  obtain ⟨C, T, N, hc, hbN, ha, hl, hw⟩ := dt_fck_ok hck
  obtain ⟨hin, hty, hnm, hlen, htk, -⟩ := hcl _ _ _ _ hc
  obtain ⟨hn, hfit⟩ := ev_fit (ad := ev_ad k) hv (htk b t hl)
  rw [ev_qv_ok hv, ev_r_own]
  have hP := hI.1.one hj
  rw [ev_cell_o ha] at hP
  have hap := va_apart (own := (dt_nm y).cls) hts hin (dt_ty T) hty hnm hU.1 hc
  obtain ⟨r', h1, cell, q1, q2, q3, q4⟩ := hP 0 _ rfl
  have hr' : r' = (C, T, N) := Option.some.inj (h1.symm.trans hc)
  subst hr'
  obtain ⟨hS, hfc, kC, hkC, hkind⟩ := hU.1.1 a _ hc
  obtain ⟨cf, kf, fi, f, hi, hsl⟩ := hS b hbN
  have hst := (u_facts hfc hkC (u_lays hts hin hbN) hi).1
  have hl2 : b < (ev_fs (ev_ad k) (dt_lay a) (μ.1 (j + 64))).length := by rw [ev_fs_len]; exact (List.getElem?_eq_some_iff.mp hl).1
  have key : ∀ H' : Heap, H'[k.1 + j]? = some (cell.setSlot (k.2.2.1 a b) (ev_fv (ev_ad k) t x)) → H'.size = H.size → (∀ q, q ≠ k.1 + j → H'[q]? = H[q]?) → ev_I k (ev_up μ.1 (j + 64) b x, μ.2) s.heap H' (locs ++ [⟨k.1 + j, k.2.2.1 a b⟩]) := by
    intro H' e1 e2 e3
    refine hI.set hj e2 e3 ?_
    rw [ev_cell_o ha, ← ev_fs_set hl]
    exact ⟨_, hc, t_OB.to (V := updV (vp_V (ev_fs (ev_ad k) (dt_lay a) (μ.1 (j + 64)))) b (ev_fv (ev_ad k) t x)) ⟨_, e1, q2, q3, t_set q4 hap hbN _⟩ (fun z _ => vp_updV_set hl2 _ z)⟩
  cases hf : (T b).2.2.2 with
  | false =>
    have hlay := hts _ (hin _ (u_in_lay hbN))
    unfold u_lay at hlay
    rw [if_neg (by rw [hf]; decide)] at hlay
    have h6 := u_store hfc hkC hkind hlay hi (hty b hbN) hn hfit
    rcases hw with hw | ⟨q, hw⟩
    · refine W.putK hx hb (f := f) ⟨hown, hts _ hw, ⟨_, _, _, hi⟩, hst⟩ (by rw [q2]; exact h6) q1 q3 (by rw [hsl]; exact k2_hasslot (q4 b hbN)) rfl rfl hdg fun H' e1 e2 e3 => ?_
      rw [hsl] at e1
      exact kk _ _ (by rw [hsl]; exact key H' e1 e2 e3)
    · refine va_WputK hx hb (f := f) hown (va_Nw.use rfl (hU.2.1 _ hw rfl)) hi hst (by rw [q2]; exact h6) q1 q3 (by rw [hsl]; exact k2_hasslot (q4 b hbN)) rfl rfl hdg fun H' e1 e2 e3 => ?_
      rw [hsl] at e1
      exact kk _ _ (by rw [hsl]; exact key H' e1 e2 e3)
  | true =>
    have hlay := hts _ (hin _ (u_in_lay hbN))
    unfold u_lay at hlay
    rw [if_pos hf] at hlay
    unfold dt_fck at hck
    unfold dt_pck at hpk
    rw [hc] at hck hpk
    cases hd : lw_tbl[d]? with
    | none => rw [hd] at hck; cases hck
    | some w =>
      rw [hd] at hck hpk
      simp only [Bool.and_eq_true, decide_eq_true_eq] at hck
      have hck := hck.2
      cases w with
      | fieldLink o i r0 n0 ds =>
        obtain ⟨rfl, rfl, rfl, rfl, rfl⟩ := of_decide_eq_true hck
        simp only [hf, Bool.not_true, Bool.false_or, Bool.and_eq_true, decide_eq_true_eq] at hpk
        have hlink := hts _ (dt_inG hd rfl)
        have hcf : m.cls = cf := by
          obtain ⟨_, _, c', _, _, _, -, -, hf', -, -, -, hown2, -⟩ := Cond.laysFinal_spec hlay
          have e1 : c' = cf := by have := hi.symm.trans hf'; simp at this; exact this.1.symm
          rw [hpk.1] at hown2
          rw [← e1]
          exact Option.some.inj (hown.symm.trans hown2)
        have h6 := u_fits hfc hkC hkind (Or.inr hlay) hi (hty b hbN) hn hfit
        refine W.putFinK hx hb hown hlink hi hst hcf (hnm9 hpk.2) (by rw [q2]; exact h6) q1 q3 (by rw [hsl]; exact k2_hasslot (q4 b hbN)) rfl rfl hdg fun H' e1 e2 e3 => ?_
        rw [hsl] at e1
        exact kk _ _ (by rw [hsl]; exact key H' e1 e2 e3)
      | _ => simp [hf] at hpk
/-- a new object's link -/
def dt_nck (own : String) (idx a d : Nat) : Bool := match vwCl[a]? with
  | some (C, _, _) => decide (lw_tbl[d]? = some (Cond.classLink own idx C))
  | none => false
/-- a new cell -/
def ev_nw (μ : eM) (kd n : Nat) : eM := (ev_ur μ.1 (μ.2.1.length + 64) (fun _ => 0), μ.2.1 ++ [(kd, n)], μ.2.2 + n)
theorem ev_newo {p : Program} {l : Launch} {e : Env} {R : Room} {s : State} {m : MethodId} {args : Array Value} {below : List Frame} {meth : Method} {c : Code} {H : Heap} {locs : List Loc} {cells slots : Nat} {Q : State → Prop} {pc : Nat} {ls : Array Slot} {k : eK} {fg : eG} {y : Nat} {μ : eM} {rest : List Value} (X : ev_X k fg y p s m args meth c) (hcl : ∀ ci C T N, vwCl[ci]? = some (C, T, N) → dt_cls ci C T N) (hI : ev_I k μ s.heap H locs) {idx a d : Nat} (hck : dt_nck (dt_nm y).cls idx a d = true) (hdg : decode (dt_by y) pc = .ok (.new idx, 3)) (hcells : cells + 1 ≤ R.cells) (hslots : slots + (dt_lay a).length ≤ R.slots)
    (kk : ∀ (H1 : Heap), ev_I k (ev_nw μ a (dt_lay a).length) s.heap H1 locs → W p l e R s m args below meth c H1 locs (cells + 1) (slots + (dt_lay a).length) Q (F0 m (pc + 3) ls (ev_r (ev_ad k) (μ.2.1.length + 64) :: rest))) : W p l e R s m args below meth c H locs cells slots Q (F0 m pc ls rest) := by
  obtain ⟨hx, hb, hml, hown, hts, hU, -⟩ := X
  unfold dt_nck at hck
  split at hck
  · rename_i C T N hc
    have hlink := of_decide_eq_true hck
    obtain ⟨hin, hty, hnm, hlen, htk, hinst, hini, ha⟩ := hcl _ _ _ _ hc
    rw [hlen] at hslots kk
    have hKn := hU.1.1 a _ hc
    refine W.newcK hx hb hown (hts _ (dt_inG hlink rfl)) (hts _ hinst) (hts _ hini) rfl hdg hcells hslots hKn.2.1 rfl fun H1 kC hkC e1 z1 o1 => ?_
    have hsz : H.size = k.1 + μ.2.1.length := hI.1.1
    have hk := kk H1 (hI.push z1 o1 (by
      rw [ev_cell_o ha]
      refine ⟨_, hc, (u_born (dt_ty T) hts hin hKn hkC e1 hty).to fun j hj => ?_⟩
      have hj2 : j < (dt_lay a).length := by rw [hlen]; exact hj
      have hg : (dt_lay a)[j]? = some ((dt_lay a)[j]) := List.getElem?_eq_getElem hj2
      show defaultValue (dt_ty T j) = List.getD _ _ _
      rw [List.getD_eq_getElem?_getD, ev_fs_get hg]
      exact ev_dflt (htk j _ hg)))
    rw [ev_r_own, ← hsz] at hk
    exact hk
  · cases hck
theorem ev_cell_100 (k : eK) (f : Nat → Int) (n : Nat) : ev_cell k f 100 n = .inl (k.2.2.2.1 0, n, .inl fun j => Int32.ofInt (f j)) := by
  unfold ev_cell
  rfl
theorem ev_newa100 {p : Program} {l : Launch} {e : Env} {R : Room} {s : State} {m : MethodId} {args : Array Value} {below : List Frame} {meth : Method} {c : Code} {H : Heap} {locs : List Loc} {cells slots : Nat} {Q : State → Prop} {pc : Nat} {ls : Array Slot} {k : eK} {fg : eG} {y : Nat} {μ : eM} {rest : List Value} (X : ev_X k fg y p s m args meth c) (hI : ev_I k μ s.heap H locs) {x : Int} (hw : Cond.arrayClass .int ∈ dt_G) (h0 : 0 ≤ ev_w x) (h1 : ev_w x ≤ 1000000) (hdg : decode (dt_by y) pc = .ok (.newarray .int, 2)) (hcells : cells + 1 ≤ R.cells) (hslots : slots + (ev_w x).toNat ≤ R.slots)
    (kk : ∀ (H1 : Heap), ev_I k (ev_nw μ 100 (ev_w x).toNat) s.heap H1 locs → W p l e R s m args below meth c H1 locs (cells + 1) (slots + (ev_w x).toNat) Q (F0 m (pc + 2) ls (ev_r (ev_ad k) (μ.2.1.length + 64) :: rest))) : W p l e R s m args below meth c H locs cells slots Q (F0 m pc ls (.int (Int32.ofInt x) :: rest)) := by
  obtain ⟨hx, hb, hml, hown, hts, hU, -⟩ := X
  have hsz : H.size = k.1 + μ.2.1.length := hI.1.1
  refine va_newaK (atype := .int) hx hb (hts _ hw) rfl hdg rfl (fun q => absurd ((ev_lt0 x).mp q) (by omega)) (ev_nat x) (by show (ev_w x).toNat * 4 ≤ _; omega) hcells hslots rfl fun H1 cA e1 z1 o1 hAr hNm => ?_
  have hcA : cA = k.2.2.2.1 0 := Option.some.inj (hNm.symm.trans ((hU.1.2 0 (k.2.2.2.1 0, .int) rfl).2))
  subst hcA
  have hk := kk H1 (hI.push z1 o1 (by
    rw [ev_cell_100]
    exact e1))
  rw [ev_r_own, ← hsz] at hk
  exact hk
theorem ev_cell_101 (k : eK) (f : Nat → Int) (n : Nat) : ev_cell k f 101 n = .inl (k.2.2.2.1 1, n, .inr (.inl fun j => Int64.ofInt (f j))) := by
  unfold ev_cell
  rfl
theorem ev_newa101 {p : Program} {l : Launch} {e : Env} {R : Room} {s : State} {m : MethodId} {args : Array Value} {below : List Frame} {meth : Method} {c : Code} {H : Heap} {locs : List Loc} {cells slots : Nat} {Q : State → Prop} {pc : Nat} {ls : Array Slot} {k : eK} {fg : eG} {y : Nat} {μ : eM} {rest : List Value} (X : ev_X k fg y p s m args meth c) (hI : ev_I k μ s.heap H locs) {x : Int} (hw : Cond.arrayClass .long ∈ dt_G) (h0 : 0 ≤ ev_w x) (h1 : ev_w x ≤ 1000000) (hdg : decode (dt_by y) pc = .ok (.newarray .long, 2)) (hcells : cells + 1 ≤ R.cells) (hslots : slots + (ev_w x).toNat ≤ R.slots)
    (kk : ∀ (H1 : Heap), ev_I k (ev_nw μ 101 (ev_w x).toNat) s.heap H1 locs → W p l e R s m args below meth c H1 locs (cells + 1) (slots + (ev_w x).toNat) Q (F0 m (pc + 2) ls (ev_r (ev_ad k) (μ.2.1.length + 64) :: rest))) : W p l e R s m args below meth c H locs cells slots Q (F0 m pc ls (.int (Int32.ofInt x) :: rest)) := by
  obtain ⟨hx, hb, hml, hown, hts, hU, -⟩ := X
  have hsz : H.size = k.1 + μ.2.1.length := hI.1.1
  refine va_newaK (atype := .long) hx hb (hts _ hw) rfl hdg rfl (fun q => absurd ((ev_lt0 x).mp q) (by omega)) (ev_nat x) (by show (ev_w x).toNat * 8 ≤ _; omega) hcells hslots rfl fun H1 cA e1 z1 o1 hAr hNm => ?_
  have hcA : cA = k.2.2.2.1 1 := Option.some.inj (hNm.symm.trans ((hU.1.2 1 (k.2.2.2.1 1, .long) rfl).2))
  subst hcA
  have hk := kk H1 (hI.push z1 o1 (by
    rw [ev_cell_101]
    exact e1))
  rw [ev_r_own, ← hsz] at hk
  exact hk
theorem ev_cell_102 (k : eK) (f : Nat → Int) (n : Nat) : ev_cell k f 102 n = .inl (k.2.2.2.1 2, n, .inl fun j => Int32.ofInt (f j)) := by
  unfold ev_cell
  rfl
theorem ev_newa102 {p : Program} {l : Launch} {e : Env} {R : Room} {s : State} {m : MethodId} {args : Array Value} {below : List Frame} {meth : Method} {c : Code} {H : Heap} {locs : List Loc} {cells slots : Nat} {Q : State → Prop} {pc : Nat} {ls : Array Slot} {k : eK} {fg : eG} {y : Nat} {μ : eM} {rest : List Value} (X : ev_X k fg y p s m args meth c) (hI : ev_I k μ s.heap H locs) {x : Int} (hw : Cond.arrayClass .byte ∈ dt_G) (h0 : 0 ≤ ev_w x) (h1 : ev_w x ≤ 1000000) (hdg : decode (dt_by y) pc = .ok (.newarray .byte, 2)) (hcells : cells + 1 ≤ R.cells) (hslots : slots + (ev_w x).toNat ≤ R.slots)
    (kk : ∀ (H1 : Heap), ev_I k (ev_nw μ 102 (ev_w x).toNat) s.heap H1 locs → W p l e R s m args below meth c H1 locs (cells + 1) (slots + (ev_w x).toNat) Q (F0 m (pc + 2) ls (ev_r (ev_ad k) (μ.2.1.length + 64) :: rest))) : W p l e R s m args below meth c H locs cells slots Q (F0 m pc ls (.int (Int32.ofInt x) :: rest)) := by
  obtain ⟨hx, hb, hml, hown, hts, hU, -⟩ := X
  have hsz : H.size = k.1 + μ.2.1.length := hI.1.1
  refine va_newaK (atype := .byte) hx hb (hts _ hw) rfl hdg rfl (fun q => absurd ((ev_lt0 x).mp q) (by omega)) (ev_nat x) (by show (ev_w x).toNat * 1 ≤ _; omega) hcells hslots rfl fun H1 cA e1 z1 o1 hAr hNm => ?_
  have hcA : cA = k.2.2.2.1 2 := Option.some.inj (hNm.symm.trans ((hU.1.2 2 (k.2.2.2.1 2, .byte) rfl).2))
  subst hcA
  have hk := kk H1 (hI.push z1 o1 (by
    rw [ev_cell_102]
    exact e1))
  rw [ev_r_own, ← hsz] at hk
  exact hk
theorem ev_cell_103 (k : eK) (f : Nat → Int) (n : Nat) : ev_cell k f 103 n = .inl (k.2.2.2.1 3, n, .inl fun j => Int32.ofInt (f j)) := by
  unfold ev_cell
  rfl
theorem ev_newa103 {p : Program} {l : Launch} {e : Env} {R : Room} {s : State} {m : MethodId} {args : Array Value} {below : List Frame} {meth : Method} {c : Code} {H : Heap} {locs : List Loc} {cells slots : Nat} {Q : State → Prop} {pc : Nat} {ls : Array Slot} {k : eK} {fg : eG} {y : Nat} {μ : eM} {rest : List Value} (X : ev_X k fg y p s m args meth c) (hI : ev_I k μ s.heap H locs) {x : Int} (hw : Cond.arrayClass .boolean ∈ dt_G) (h0 : 0 ≤ ev_w x) (h1 : ev_w x ≤ 1000000) (hdg : decode (dt_by y) pc = .ok (.newarray .boolean, 2)) (hcells : cells + 1 ≤ R.cells) (hslots : slots + (ev_w x).toNat ≤ R.slots)
    (kk : ∀ (H1 : Heap), ev_I k (ev_nw μ 103 (ev_w x).toNat) s.heap H1 locs → W p l e R s m args below meth c H1 locs (cells + 1) (slots + (ev_w x).toNat) Q (F0 m (pc + 2) ls (ev_r (ev_ad k) (μ.2.1.length + 64) :: rest))) : W p l e R s m args below meth c H locs cells slots Q (F0 m pc ls (.int (Int32.ofInt x) :: rest)) := by
  obtain ⟨hx, hb, hml, hown, hts, hU, -⟩ := X
  have hsz : H.size = k.1 + μ.2.1.length := hI.1.1
  refine va_newaK (atype := .boolean) hx hb (hts _ hw) rfl hdg rfl (fun q => absurd ((ev_lt0 x).mp q) (by omega)) (ev_nat x) (by show (ev_w x).toNat * 1 ≤ _; omega) hcells hslots rfl fun H1 cA e1 z1 o1 hAr hNm => ?_
  have hcA : cA = k.2.2.2.1 3 := Option.some.inj (hNm.symm.trans ((hU.1.2 3 (k.2.2.2.1 3, .boolean) rfl).2))
  subst hcA
  have hk := kk H1 (hI.push z1 o1 (by
    rw [ev_cell_103]
    exact e1))
  rw [ev_r_own, ← hsz] at hk
  exact hk
/-- the number read from an array -/
def ev_al (fg : eG) (μ : eM) (kd r : Nat) (i : Int) : Option Int :=
  if r < 64 then (if 0 < r ∧ (fg r).1 = kd ∧ 0 ≤ ev_w i ∧ ev_w i < ((fg r).2.1 : Int) then some ((fg r).2.2 (ev_w i).toNat) else none)
  else match μ.2.1[r - 64]? with
    | some q => if q.1 = kd ∧ 0 ≤ ev_w i ∧ ev_w i < (q.2 : Int) then some (μ.1 r (ev_w i).toNat) else none
    | none => none
theorem ev_al_ok {fg : eG} {μ : eM} {kd r : Nat} {i x : Int} (h : ev_al fg μ kd r i = some x) : (r < 64 ∧ 0 < r ∧ (fg r).1 = kd ∧ (0 ≤ ev_w i ∧ ev_w i < ((fg r).2.1 : Int)) ∧ x = (fg r).2.2 (ev_w i).toNat) ∨ ∃ j n : Nat, r = j + 64 ∧ μ.2.1[j]? = some (kd, n) ∧ (0 ≤ ev_w i ∧ ev_w i < (n : Int)) ∧ x = μ.1 (j + 64) (ev_w i).toNat := by
  unfold ev_al at h
  split at h
  · rename_i h0
    split at h
    · rename_i h1
      cases h
      exact Or.inl ⟨h0, h1.1, h1.2.1, h1.2.2, rfl⟩
    · cases h
  · rename_i h0
    split at h
    · rename_i q hq
      split at h
      · rename_i h1
        obtain ⟨a, n⟩ := q
        obtain ⟨h2, h3⟩ := h1
        have h2 : a = kd := h2
        subst h2
        cases h
        refine Or.inr ⟨r - 64, n, by omega, hq, h3, ?_⟩
        rw [show r - 64 + 64 = r by omega]
      · cases h
    · cases h
/-- memory behind a store -/
def ev_as (μ : eM) (kd r : Nat) (i x : Int) : Option eM :=
  if r < 64 then none
  else match μ.2.1[r - 64]? with
    | some q => if q.1 = kd ∧ 0 ≤ ev_w i ∧ ev_w i < (q.2 : Int) then some (ev_up μ.1 r (ev_w i).toNat x, μ.2) else none
    | none => none
theorem ev_as_ok {μ μ' : eM} {kd r : Nat} {i x : Int} (h : ev_as μ kd r i x = some μ') : ∃ j n : Nat, r = j + 64 ∧ μ.2.1[j]? = some (kd, n) ∧ (0 ≤ ev_w i ∧ ev_w i < (n : Int)) ∧ μ' = (ev_up μ.1 (j + 64) (ev_w i).toNat x, μ.2) := by
  unfold ev_as at h
  split at h
  · cases h
  · rename_i h0
    split at h
    · rename_i q hq
      split at h
      · rename_i h1
        obtain ⟨a, n⟩ := q
        obtain ⟨h2, h3⟩ := h1
        have h2 : a = kd := h2
        subst h2
        cases h
        refine ⟨r - 64, n, by omega, hq, h3, ?_⟩
        rw [show r - 64 + 64 = r by omega]
      · cases h
    · cases h
def ev_ln (fg : eG) (μ : eM) (r : Nat) : Option Nat :=
  if r < 64 then (if 0 < r ∧ (fg r).1 ≠ 0 then some (fg r).2.1 else none)
  else match μ.2.1[r - 64]? with
    | some q => if 100 ≤ q.1 ∧ q.1 ≤ 103 then some q.2 else none
    | none => none
theorem ev_ln_ok {fg : eG} {μ : eM} {r n : Nat} (h : ev_ln fg μ r = some n) : (r < 64 ∧ 0 < r ∧ (fg r).1 ≠ 0 ∧ n = (fg r).2.1) ∨ ∃ j kd : Nat, r = j + 64 ∧ μ.2.1[j]? = some (kd, n) ∧ (kd = 100 ∨ kd = 101 ∨ kd = 102 ∨ kd = 103) := by
  unfold ev_ln at h
  split at h
  · rename_i h0
    split at h
    · rename_i h1
      cases h
      exact Or.inl ⟨h0, h1.1, h1.2, rfl⟩
    · cases h
  · rename_i h0
    split at h
    · rename_i q hq
      split at h
      · rename_i h1
        obtain ⟨a, z⟩ := q
        cases h
        exact Or.inr ⟨r - 64, a, by omega, hq, by have := h1.1; have := h1.2; simp only at *; omega⟩
      · cases h
    · cases h
theorem ev_ld100 {p : Program} {l : Launch} {e : Env} {R : Room} {s : State} {m : MethodId} {args : Array Value} {below : List Frame} {meth : Method} {c : Code} {H : Heap} {locs : List Loc} {cells slots : Nat} {Q : State → Prop} {pc : Nat} {ls : Array Slot} {k : eK} {fg : eG} {y : Nat} {μ : eM} {rest : List Value} (X : ev_X k fg y p s m args meth c) (hI : ev_I k μ s.heap H locs) {r : Nat} {i x : Int} (h : ev_al fg μ 100 r i = some x) (hdg : decode (dt_by y) pc = .ok (.iaload, 1))
    (kk : W p l e R s m args below meth c H locs cells slots Q (F0 m (pc + 1) ls (.int (Int32.ofInt x) :: rest))) : W p l e R s m args below meth c H locs cells slots Q (F0 m pc ls (.int (Int32.ofInt i) :: ev_r (ev_ad k) r :: rest)) := by
  obtain ⟨hx, hb, hml, hown, hts, hU, -⟩ := X
  rcases ev_al_ok h with h | ⟨j, n, rfl, hj, hi, rfl⟩
  · obtain ⟨hr1, hr0, hr2, hi, rfl⟩ := h
    rw [ev_r_old hr0 hr1]
    obtain ⟨cell, c1, c2, c3, c4, c5, c6, c7⟩ := hU.2.2.1 r hr1 (by rw [hr2]; decide)
    rw [hr2] at c2 c6
    have hiN : (ev_w i).toNat < (fg r).2.1 := by omega
    refine W.iald (v := .int (Int32.ofInt ((fg r).2.2 (ev_w i).toNat))) hx hb (cell := cell) ((hI.2.1 _ (Nat.not_le.mp c7)).trans c1) c2 c3 (ev_in ⟨hi.1, by omega⟩) ?_ rfl rfl hdg kk
    rw [ev_nat]
    exact c6 _ hiN
  · rw [ev_r_own]
    have hP := hI.1.one hj
    rw [ev_cell_100] at hP
    refine va_iald hx hb hU.1 hP 0 0 rfl rfl (ev_in hi) hdg ?_
    rw [ev_nat]
    exact kk
theorem ev_ld101 {p : Program} {l : Launch} {e : Env} {R : Room} {s : State} {m : MethodId} {args : Array Value} {below : List Frame} {meth : Method} {c : Code} {H : Heap} {locs : List Loc} {cells slots : Nat} {Q : State → Prop} {pc : Nat} {ls : Array Slot} {k : eK} {fg : eG} {y : Nat} {μ : eM} {rest : List Value} (X : ev_X k fg y p s m args meth c) (hI : ev_I k μ s.heap H locs) {r : Nat} {i x : Int} (h : ev_al fg μ 101 r i = some x) (hdg : decode (dt_by y) pc = .ok (.laload, 1))
    (kk : W p l e R s m args below meth c H locs cells slots Q (F0 m (pc + 1) ls (.long (Int64.ofInt x) :: rest))) : W p l e R s m args below meth c H locs cells slots Q (F0 m pc ls (.int (Int32.ofInt i) :: ev_r (ev_ad k) r :: rest)) := by
  obtain ⟨hx, hb, hml, hown, hts, hU, -⟩ := X
  rcases ev_al_ok h with h | ⟨j, n, rfl, hj, hi, rfl⟩
  · obtain ⟨hr1, hr0, hr2, hi, rfl⟩ := h
    rw [ev_r_old hr0 hr1]
    obtain ⟨cell, c1, c2, c3, c4, c5, c6, c7⟩ := hU.2.2.1 r hr1 (by rw [hr2]; decide)
    rw [hr2] at c2 c6
    have hiN : (ev_w i).toNat < (fg r).2.1 := by omega
    refine W.lald (v := .long (Int64.ofInt ((fg r).2.2 (ev_w i).toNat))) hx hb (cell := cell) ((hI.2.1 _ (Nat.not_le.mp c7)).trans c1) c2 c3 (ev_in ⟨hi.1, by omega⟩) ?_ rfl rfl hdg kk
    rw [ev_nat]
    exact c6 _ hiN
  · rw [ev_r_own]
    have hP := hI.1.one hj
    rw [ev_cell_101] at hP
    refine va_lald hx hb hU.1 hP 0 1 rfl rfl (ev_in hi) hdg ?_
    rw [ev_nat]
    exact kk
theorem ev_ld102 {p : Program} {l : Launch} {e : Env} {R : Room} {s : State} {m : MethodId} {args : Array Value} {below : List Frame} {meth : Method} {c : Code} {H : Heap} {locs : List Loc} {cells slots : Nat} {Q : State → Prop} {pc : Nat} {ls : Array Slot} {k : eK} {fg : eG} {y : Nat} {μ : eM} {rest : List Value} (X : ev_X k fg y p s m args meth c) (hI : ev_I k μ s.heap H locs) (hfg : ∀ r, (fg r).1 ≠ 102) {r : Nat} {i x : Int} (h : ev_al fg μ 102 r i = some x) (hdg : decode (dt_by y) pc = .ok (.baload, 1))
    (kk : W p l e R s m args below meth c H locs cells slots Q (F0 m (pc + 1) ls (.int (Int32.ofInt x) :: rest))) : W p l e R s m args below meth c H locs cells slots Q (F0 m pc ls (.int (Int32.ofInt i) :: ev_r (ev_ad k) r :: rest)) := by
  obtain ⟨hx, hb, hml, hown, hts, hU, -⟩ := X
  rcases ev_al_ok h with h | ⟨j, n, rfl, hj, hi, rfl⟩
  · obtain ⟨hr1, hr0, hr2, hi, rfl⟩ := h
    exact absurd hr2 (hfg r)
  · rw [ev_r_own]
    have hP := hI.1.one hj
    rw [ev_cell_102] at hP
    refine va_bald hx hb hU.1 hP 0 2 rfl rfl (ev_in hi) hdg ?_
    rw [ev_nat]
    exact kk
theorem ev_ld103 {p : Program} {l : Launch} {e : Env} {R : Room} {s : State} {m : MethodId} {args : Array Value} {below : List Frame} {meth : Method} {c : Code} {H : Heap} {locs : List Loc} {cells slots : Nat} {Q : State → Prop} {pc : Nat} {ls : Array Slot} {k : eK} {fg : eG} {y : Nat} {μ : eM} {rest : List Value} (X : ev_X k fg y p s m args meth c) (hI : ev_I k μ s.heap H locs) (hfg : ∀ r, (fg r).1 ≠ 103) {r : Nat} {i x : Int} (h : ev_al fg μ 103 r i = some x) (hdg : decode (dt_by y) pc = .ok (.baload, 1))
    (kk : W p l e R s m args below meth c H locs cells slots Q (F0 m (pc + 1) ls (.int (Int32.ofInt x) :: rest))) : W p l e R s m args below meth c H locs cells slots Q (F0 m pc ls (.int (Int32.ofInt i) :: ev_r (ev_ad k) r :: rest)) := by
  obtain ⟨hx, hb, hml, hown, hts, hU, -⟩ := X
  rcases ev_al_ok h with h | ⟨j, n, rfl, hj, hi, rfl⟩
  · obtain ⟨hr1, hr0, hr2, hi, rfl⟩ := h
    exact absurd hr2 (hfg r)
  · rw [ev_r_own]
    have hP := hI.1.one hj
    rw [ev_cell_103] at hP
    refine va_zald hx hb hU.1 hP 0 3 rfl rfl (ev_in hi) hdg ?_
    rw [ev_nat]
    exact kk
theorem ev_st100 {p : Program} {l : Launch} {e : Env} {R : Room} {s : State} {m : MethodId} {args : Array Value} {below : List Frame} {meth : Method} {c : Code} {H : Heap} {locs : List Loc} {cells slots : Nat} {Q : State → Prop} {pc : Nat} {ls : Array Slot} {k : eK} {fg : eG} {y : Nat} {μ : eM} {rest : List Value} (X : ev_X k fg y p s m args meth c) (hI : ev_I k μ s.heap H locs) {r : Nat} {i x : Int} {μ' : eM} (h : ev_as μ 100 r i x = some μ') (hdg : decode (dt_by y) pc = .ok (.iastore, 1))
    (kk : ∀ (H1 : Heap) (locs1 : List Loc), ev_I k μ' s.heap H1 locs1 → W p l e R s m args below meth c H1 locs1 cells slots Q (F0 m (pc + 1) ls rest)) : W p l e R s m args below meth c H locs cells slots Q (F0 m pc ls (.int (Int32.ofInt x) :: .int (Int32.ofInt i) :: ev_r (ev_ad k) r :: rest)) := by
  obtain ⟨hx, hb, hml, hown, hts, hU, -⟩ := X
  obtain ⟨j, n, rfl, hj, hi, rfl⟩ := ev_as_ok h
  rw [ev_r_own]
  have hP := hI.1.2 j 100 n hj
  rw [ev_cell_100] at hP
  have hc0 : H[k.1 + j]? = some (arrV (k.2.2.2.1 0) n (fun q => .int (Int32.ofInt (μ.1 (j + 64) q)))) := hP
  refine W.iast hx hb hc0 ((hU.1.2 0 (k.2.2.2.1 0, .int) rfl).1 n _) (fun q => by cases q) (by rw [arrV_size]; exact ev_in hi) rfl rfl hdg fun H1 e1 z1 o1 => ?_
  refine kk H1 _ (hI.set (f := ev_u1 (μ.1 (j + 64)) (ev_w i).toNat x) hj z1 o1 ?_)
  rw [ev_cell_100]
  show H1[k.1 + j]? = some (vp_cell _ _)
  rw [e1, vp_cell_i, arrV_store, ev_nat]
  congr 2
  funext q
  unfold updV ev_u1
  split <;> rfl
theorem ev_st101 {p : Program} {l : Launch} {e : Env} {R : Room} {s : State} {m : MethodId} {args : Array Value} {below : List Frame} {meth : Method} {c : Code} {H : Heap} {locs : List Loc} {cells slots : Nat} {Q : State → Prop} {pc : Nat} {ls : Array Slot} {k : eK} {fg : eG} {y : Nat} {μ : eM} {rest : List Value} (X : ev_X k fg y p s m args meth c) (hI : ev_I k μ s.heap H locs) {r : Nat} {i x : Int} {μ' : eM} (h : ev_as μ 101 r i x = some μ') (hdg : decode (dt_by y) pc = .ok (.lastore, 1))
    (kk : ∀ (H1 : Heap) (locs1 : List Loc), ev_I k μ' s.heap H1 locs1 → W p l e R s m args below meth c H1 locs1 cells slots Q (F0 m (pc + 1) ls rest)) : W p l e R s m args below meth c H locs cells slots Q (F0 m pc ls (.long (Int64.ofInt x) :: .int (Int32.ofInt i) :: ev_r (ev_ad k) r :: rest)) := by
  obtain ⟨hx, hb, hml, hown, hts, hU, -⟩ := X
  obtain ⟨j, n, rfl, hj, hi, rfl⟩ := ev_as_ok h
  rw [ev_r_own]
  have hP := hI.1.2 j 101 n hj
  rw [ev_cell_101] at hP
  have hc0 : H[k.1 + j]? = some (arrV (k.2.2.2.1 1) n (fun q => .long (Int64.ofInt (μ.1 (j + 64) q)))) := hP
  refine W.last hx hb hc0 ((hU.1.2 1 (k.2.2.2.1 1, .long) rfl).1 n _) (fun q => by cases q) (by rw [arrV_size]; exact ev_in hi) rfl rfl hdg fun H1 e1 z1 o1 => ?_
  refine kk H1 _ (hI.set (f := ev_u1 (μ.1 (j + 64)) (ev_w i).toNat x) hj z1 o1 ?_)
  rw [ev_cell_101]
  show H1[k.1 + j]? = some (vp_cell _ _)
  rw [e1, vp_cell_l, arrV_store, ev_nat]
  congr 2
  funext q
  unfold updV ev_u1
  split <;> rfl
theorem ev_st102 {p : Program} {l : Launch} {e : Env} {R : Room} {s : State} {m : MethodId} {args : Array Value} {below : List Frame} {meth : Method} {c : Code} {H : Heap} {locs : List Loc} {cells slots : Nat} {Q : State → Prop} {pc : Nat} {ls : Array Slot} {k : eK} {fg : eG} {y : Nat} {μ : eM} {rest : List Value} (X : ev_X k fg y p s m args meth c) (hI : ev_I k μ s.heap H locs) {r : Nat} {i x : Int} {μ' : eM} (h : ev_as μ 102 r i ((x + 128) % 256 - 128) = some μ') (hdg : decode (dt_by y) pc = .ok (.bastore, 1))
    (kk : ∀ (H1 : Heap) (locs1 : List Loc), ev_I k μ' s.heap H1 locs1 → W p l e R s m args below meth c H1 locs1 cells slots Q (F0 m (pc + 1) ls rest)) : W p l e R s m args below meth c H locs cells slots Q (F0 m pc ls (.int (Int32.ofInt x) :: .int (Int32.ofInt i) :: ev_r (ev_ad k) r :: rest)) := by
  obtain ⟨hx, hb, hml, hown, hts, hU, -⟩ := X
  obtain ⟨j, n, rfl, hj, hi, rfl⟩ := ev_as_ok h
  rw [ev_r_own]
  have hP := hI.1.2 j 102 n hj
  rw [ev_cell_102] at hP
  have hc0 : H[k.1 + j]? = some (arrV (k.2.2.2.1 2) n (fun q => .int (Int32.ofInt (μ.1 (j + 64) q)))) := hP
  refine W.bast hx hb hc0 ((hU.1.2 2 (k.2.2.2.1 2, .byte) rfl).1 n _) (fun q => by cases q) (by rw [arrV_size]; exact ev_in hi) rfl rfl hdg fun H1 e1 z1 o1 => ?_
  rw [show narrow .byte (.int (Int32.ofInt x)) = .int (Int32.ofInt ((x + 128) % 256 - 128)) from congrArg Value.int (ev_i2b_ok x)] at e1
  refine kk H1 _ (hI.set (f := ev_u1 (μ.1 (j + 64)) (ev_w i).toNat ((x + 128) % 256 - 128)) hj z1 o1 ?_)
  rw [ev_cell_102]
  show H1[k.1 + j]? = some (vp_cell _ _)
  rw [e1, vp_cell_i, arrV_store, ev_nat]
  congr 2
  funext q
  unfold updV ev_u1
  split <;> rfl
theorem ev_st103 {p : Program} {l : Launch} {e : Env} {R : Room} {s : State} {m : MethodId} {args : Array Value} {below : List Frame} {meth : Method} {c : Code} {H : Heap} {locs : List Loc} {cells slots : Nat} {Q : State → Prop} {pc : Nat} {ls : Array Slot} {k : eK} {fg : eG} {y : Nat} {μ : eM} {rest : List Value} (X : ev_X k fg y p s m args meth c) (hI : ev_I k μ s.heap H locs) {r : Nat} {i x : Int} {μ' : eM} (h : ev_as μ 103 r i x = some μ') (hx01 : ev_w x = 0 ∨ ev_w x = 1) (hdg : decode (dt_by y) pc = .ok (.bastore, 1))
    (kk : ∀ (H1 : Heap) (locs1 : List Loc), ev_I k μ' s.heap H1 locs1 → W p l e R s m args below meth c H1 locs1 cells slots Q (F0 m (pc + 1) ls rest)) : W p l e R s m args below meth c H locs cells slots Q (F0 m pc ls (.int (Int32.ofInt x) :: .int (Int32.ofInt i) :: ev_r (ev_ad k) r :: rest)) := by
  obtain ⟨hx, hb, hml, hown, hts, hU, -⟩ := X
  obtain ⟨j, n, rfl, hj, hi, rfl⟩ := ev_as_ok h
  rw [ev_r_own]
  have hP := hI.1.2 j 103 n hj
  rw [ev_cell_103] at hP
  have hc0 : H[k.1 + j]? = some (arrV (k.2.2.2.1 3) n (fun q => .int (Int32.ofInt (μ.1 (j + 64) q)))) := hP
  refine W.zast hx hb hc0 ((hU.1.2 3 (k.2.2.2.1 3, .boolean) rfl).1 n _) (fun q => by cases q) (by rw [arrV_size]; exact ev_in hi) rfl rfl hdg fun H1 e1 z1 o1 => ?_
  rw [ev_nbool hx01] at e1
  refine kk H1 _ (hI.set (f := ev_u1 (μ.1 (j + 64)) (ev_w i).toNat x) hj z1 o1 ?_)
  rw [ev_cell_103]
  show H1[k.1 + j]? = some (vp_cell _ _)
  rw [e1, vp_cell_i, arrV_store, ev_nat]
  congr 2
  funext q
  unfold updV ev_u1
  split <;> rfl
theorem ev_len_ok {p : Program} {l : Launch} {e : Env} {R : Room} {s : State} {m : MethodId} {args : Array Value} {below : List Frame} {meth : Method} {c : Code} {H : Heap} {locs : List Loc} {cells slots : Nat} {Q : State → Prop} {pc : Nat} {ls : Array Slot} {k : eK} {fg : eG} {y : Nat} {μ : eM} {rest : List Value} (X : ev_X k fg y p s m args meth c) (hI : ev_I k μ s.heap H locs) {r n : Nat} (h : ev_ln fg μ r = some n) (hdg : decode (dt_by y) pc = .ok (.arraylength, 1))
    (kk : W p l e R s m args below meth c H locs cells slots Q (F0 m (pc + 1) ls (.int (Int32.ofInt (n : Int)) :: rest))) : W p l e R s m args below meth c H locs cells slots Q (F0 m pc ls (ev_r (ev_ad k) r :: rest)) := by
  obtain ⟨hx, hb, hml, hown, hts, hU, -⟩ := X
  rcases ev_ln_ok h with ⟨hr1, hr0, hr2, rfl⟩ | ⟨j, kd, rfl, hj, hkd⟩
  · rw [ev_r_old hr0 hr1]
    obtain ⟨cell, c1, c2, c3, c4, c5, c6, c7⟩ := hU.2.2.1 r hr1 hr2
    exact W.alen hx hb ((hI.2.1 _ (Nat.not_le.mp c7)).trans c1) c2 (c5.trans Int32.ofInt_eq_ofNat.symm) rfl rfl hdg kk
  · rw [ev_r_own]
    have hP := hI.1.one hj
    rcases hkd with rfl | rfl | rfl | rfl
    · rw [ev_cell_100] at hP
      exact va_alen hx hb hU.1 hP 0 0 rfl rfl Int32.ofInt_eq_ofNat.symm hdg kk
    · rw [ev_cell_101] at hP
      exact va_alen hx hb hU.1 hP 0 1 rfl rfl Int32.ofInt_eq_ofNat.symm hdg kk
    · rw [ev_cell_102] at hP
      exact va_alen hx hb hU.1 hP 0 2 rfl rfl Int32.ofInt_eq_ofNat.symm hdg kk
    · rw [ev_cell_103] at hP
      exact va_alen hx hb hU.1 hP 0 3 rfl rfl Int32.ofInt_eq_ofNat.symm hdg kk
/-- a static field's link -/
def dt_gck (own : String) (idx a d : Nat) : Bool := dt_st.any fun q => decide (q.2.2.2 = a) && decide (0 < a) && decide (a < 64) && decide (lw_tbl[d]? = some (Cond.fieldLink own idx q.1 q.2.1 q.2.2.1))
theorem ev_gets {p : Program} {l : Launch} {e : Env} {R : Room} {s : State} {m : MethodId} {args : Array Value} {below : List Frame} {meth : Method} {c : Code} {H : Heap} {locs : List Loc} {cells slots : Nat} {Q : State → Prop} {pc : Nat} {ls : Array Slot} {k : eK} {fg : eG} {y : Nat} {μ : eM} {rest : List Value} (X : ev_X k fg y p s m args meth c) (hI : ev_I k μ s.heap H locs) {idx a d : Nat} (hck : dt_gck (dt_nm y).cls idx a d = true) (hdg : decode (dt_by y) pc = .ok (.getstatic idx, 3))
    (kk : W p l e R s m args below meth c H locs cells slots Q (F0 m (pc + 3) ls (ev_r (ev_ad k) a :: rest))) : W p l e R s m args below meth c H locs cells slots Q (F0 m pc ls rest) := by
  obtain ⟨hx, hb, hml, hown, hts, hU, -⟩ := X
  obtain ⟨q, hq, h⟩ := List.any_eq_true.mp hck
  simp only [Bool.and_eq_true, decide_eq_true_eq] at h
  obtain ⟨⟨⟨rfl, h0⟩, h1⟩, h2⟩ := h
  rw [ev_r_old h0 h1] at kk
  obtain ⟨cf, kf, fi, f, a, cell, z1, z2, z3, z4, z5, z6, z7, z8⟩ := hU.2.2.2.1 q hq
  exact W.gets hx hb hown (hts _ (dt_inG h2 rfl)) z1 z2 z3 z4 ((hI.2.1 _ (Nat.not_le.mp z8)).trans z5) (fun e => by rw [e] at z6; cases z6) z7 rfl hdg kk
