/-! THE SMALL MACHINE: what an activation stands on -/
/-- what was there before: kind (0: no array), length, contents -/
abbrev eG : Type := Nat → Nat × Nat × (Nat → Int)
def ev_tys (k : eK) : List (ClassId × FieldType) := [(k.2.2.2.1 0, .int), (k.2.2.2.1 1, .long), (k.2.2.2.1 2, .byte), (k.2.2.2.1 3, .boolean)]
def ev_B (k : eK) : Nat → Prop := fun q => k.1 ≤ q
def ev_aty (kd : Nat) : FieldType := if kd = 101 then .long else .int
def ev_atn (kd : Nat) : Nat := if kd = 101 then 2 else 0
def ev_nst (w : Cond) : Bool := match w with
  | .fieldLinkNest _ _ _ _ _ _ => true
  | _ => false
/-- classes, links of nest mates, arrays and static fields that were there before -/
def ev_U (k : eK) (fg : eG) (U : State) (H : Heap) : Prop :=
  va_K (k.2.1, k.2.2.1) vwCl (ev_tys k) U ∧ (∀ w ∈ lw_tbl, ev_nst w = true → va_Nw w U) ∧
  (∀ r : Nat, r < 64 → (fg r).1 ≠ 0 → va_T (ev_aty (fg r).1) (k.2.2.2.2 r) (fg r).2.1 (fun j => ev_fv (ev_ad k) (ev_atn (fg r).1) ((fg r).2.2 j)) (ev_B k) U H) ∧
  (∀ q ∈ dt_st, va_Z q.1 q.2.1 q.2.2.1 (.ref (k.2.2.2.2 q.2.2.2)) (ev_B k) U H) ∧ ks_all (ev_B k) k.2.2.2.2 U H
theorem ev_U.warm {k : eK} {fg : eG} {s U : State} {H : Heap} (hW : s.WarmedH U.vm) (h : ev_U k fg s H) : ev_U k fg U H := by
  refine ⟨va_K.moved hW.alike h.1, fun w hw hn => ?_, fun r h1 h2 => va_T.moved hW.alike (h.2.2.1 r h1 h2), fun q hq => va_Z.moved hW.alike (h.2.2.2.1 q hq), h.2.2.2.2.warm hW⟩
  have h1 := h.2.1 w hw hn
  cases w <;> first | exact va_Nw.warmF hW h1 | cases hn
theorem ev_U.same {k : eK} {fg : eG} {s U : State} {H : Heap} (hv : s.vm = U.vm) (h : ev_U k fg s H) : ev_U k fg U H := by
  have ha : s.vm.Alike U.vm := by rw [hv]; exact Vm.Alike.refl _
  refine ⟨va_K.moved ha h.1, fun w hw hn => ?_, fun r h1 h2 => va_T.moved ha (h.2.2.1 r h1 h2), fun q hq => va_Z.moved ha (h.2.2.2.1 q hq), h.2.2.2.2.same hv⟩
  have h1 := h.2.1 w hw hn
  cases w <;> first | exact va_Nw.same rfl hv h1 | cases hn
theorem ev_U.kept {k : eK} {fg : eG} {U : State} {H H1 : Heap} (h : ev_U k fg U H) (hk : ∀ q : Nat, q < k.1 → H1[q]? = H[q]?) : ev_U k fg U H1 :=
  ⟨h.1, h.2.1, fun r h1 h2 => (h.2.2.1 r h1 h2).kept (fun a _ ha => hk a (Nat.not_le.mp ha)), fun q hq => (h.2.2.2.1 q hq).kept (fun a _ ha => hk a (Nat.not_le.mp ha)), h.2.2.2.2.kept (fun a _ ha => hk a (Nat.not_le.mp ha))⟩
/-- the run inside an activation: memory; nothing below changed; what was written -/
def ev_I (k : eK) (μ : eM) (H0 H : Heap) (locs : List Loc) : Prop := ev_Wd k μ H ∧ (∀ q : Nat, q < k.1 → H[q]? = H0[q]?) ∧ ∀ q ∈ locs, k.1 ≤ q.base
theorem ev_I.set {k : eK} {μ : eM} {H0 H H1 : Heap} {locs : List Loc} (hI : ev_I k μ H0 H locs) {j kd n i : Nat} (h : μ.2.1[j]? = some (kd, n)) {f : Nat → Int} (hz : H1.size = H.size) (ho : ∀ q : Nat, q ≠ k.1 + j → H1[q]? = H[q]?)
    (hc : va_at (k.2.1, k.2.2.1) vwCl (k.1 + j, ev_cell k f kd n) H1) : ev_I k (ev_ur μ.1 (j + 64) f, μ.2) H0 H1 (locs ++ [⟨k.1 + j, i⟩]) := by
  refine ⟨hI.1.set h hz ho hc, fun q hq => (ho q (by omega)).trans (hI.2.1 q hq), fun q hq => ?_⟩
  rcases List.mem_append.mp hq with h1 | h1
  · exact hI.2.2 q h1
  · rw [List.mem_singleton.mp h1]
    exact Nat.le_add_right _ _
theorem ev_I.push {k : eK} {μ : eM} {H0 H H1 : Heap} {locs : List Loc} (hI : ev_I k μ H0 H locs) {kd n u : Nat} {f : Nat → Int} (hz : H1.size = H.size + 1) (ho : ∀ q : Nat, q < H.size → H1[q]? = H[q]?)
    (hc : va_at (k.2.1, k.2.2.1) vwCl (H.size, ev_cell k f kd n) H1) : ev_I k (ev_ur μ.1 (μ.2.1.length + 64) f, μ.2.1 ++ [(kd, n)], u) H0 H1 locs := by
  refine ⟨hI.1.push hz ho hc, fun q hq => (ho q ?_).trans (hI.2.1 q hq), hI.2.2⟩
  have := hI.1.1
  omega
/-- an activation of method y -/
def ev_X (k : eK) (fg : eG) (y : Nat) (p : Program) (s : State) (m : MethodId) (args : Array Value) (meth : Method) (c : Code) : Prop :=
  p.tables.exec = Jvm.exec ∧ c.code = dt_by y ∧ c.maxLocals = dt_mx y ∧ s.vm.findClass (dt_nm y).cls = some m.cls ∧ (∀ w ∈ dt_G, w.before args s = true) ∧ ev_U k fg s s.heap ∧ meth.sig.returnType = dt_rt y ∧ meth.locks = false ∧ ((dt_nm y).name = "<init>" → meth.name = "<init>")
/-! a class's facts -/
def dt_ty (T : u_T) (k : Nat) : FieldType := (parseFieldDescriptor (T k).2.2.1).getD .int
def dt_cls (ci : Nat) (C : String) (T : u_T) (N : Nat) : Prop := (∀ w ∈ u_ws C T N, w ∈ dt_G) ∧ (∀ k, k < N → parseFieldDescriptor (T k).2.2.1 = some (dt_ty T k)) ∧ (∀ a, a < N → ∀ b, b < N → a ≠ b → (T a).2.1 ≠ (T b).2.1) ∧ (dt_lay ci).length = N ∧ (∀ k t, (dt_lay ci)[k]? = some t → dt_tyk t (dt_ty T k) = true) ∧ Cond.instantiable C N ∈ dt_G ∧ Cond.initialized C ∈ dt_G ∧ ci < 100
/-- its check: the words' places, then those of instantiable, initialized -/
def dt_ckc (ci : Nat) (C : String) (T : u_T) (N : Nat) (ps : List Nat) (pi pn : Nat) : Bool :=
  (List.range N).all (fun b => decide (lw_tbl[ps.getD b 0]? = some (u_lay C T b)) && goodWord (u_lay C T b) && decide (parseFieldDescriptor (T b).2.2.1 = some (dt_ty T b)) && dt_tyk ((dt_lay ci).getD b 9) (dt_ty T b)) && decide ((dt_lay ci).length = N) &&
  decide (lw_tbl[pi]? = some (Cond.instantiable C N)) && decide (lw_tbl[pn]? = some (Cond.initialized C)) && decide (ci < 100)
theorem dt_ckc_ok {ci : Nat} {C : String} {T : u_T} {N : Nat} {ps : List Nat} {pi pn : Nat} (h : dt_ckc ci C T N ps pi pn = true) (hnm : ∀ a, a < N → ∀ b, b < N → a ≠ b → (T a).2.1 ≠ (T b).2.1) : dt_cls ci C T N := by
  unfold dt_ckc at h
  simp only [Bool.and_eq_true, decide_eq_true_eq] at h
  obtain ⟨⟨⟨⟨h1, h2⟩, h3⟩, h4⟩, h5⟩ := h
  have h1 : ∀ b, b < N → (((lw_tbl[ps.getD b 0]? = some (u_lay C T b) ∧ goodWord (u_lay C T b) = true) ∧ parseFieldDescriptor (T b).2.2.1 = some (dt_ty T b)) ∧ dt_tyk ((dt_lay ci).getD b 9) (dt_ty T b) = true) := fun b hb => by
    have := List.all_eq_true.mp h1 b (List.mem_range.mpr hb)
    simp only [Bool.and_eq_true, decide_eq_true_eq] at this
    exact this
  refine ⟨fun w hw => ?_, fun k hk => (h1 k hk).1.2, hnm, h2, fun k t hk => ?_, dt_inG h3 rfl, dt_inG h4 rfl, h5⟩
  · obtain ⟨b, hb, rfl⟩ := List.mem_map.mp hw
    have := h1 b (List.mem_range.mp hb)
    exact dt_inG this.1.1.1 this.1.1.2
  · have hl : k < N := by rw [← h2]; exact (List.getElem?_eq_some_iff.mp hk).1
    have := (h1 k hl).2
    rw [List.getD_eq_getElem?_getD, hk] at this
    exact this
