/-! THE SMALL MACHINE: answers, calls, the machine itself -/
noncomputable def ev_rt (y : Nat) (i : Instr) (st : List eV) : Option (Option eV) := match i with
  | .return_ => (match st with
    | [] => if (dt_pl y).2.1 = 0 then some none else none
    | _ => none)
  | .ireturn => (match st with
    | [.inl (.inl x)] => if (dt_pl y).2.1 = 1 ∨ ((dt_pl y).2.1 = 2 ∧ (ev_w x = 0 ∨ ev_w x = 1)) then some (some (eI x)) else none
    | _ => none)
  | .lreturn => (match st with
    | [.inl (.inr x)] => if (dt_pl y).2.1 = 3 then some (some (eJ x)) else none
    | _ => none)
  | .dreturn => (match st with
    | [.inr (.inl (.inl x))] => if (dt_pl y).2.1 = 4 then some (some (eD x)) else none
    | _ => none)
  | .areturn => (match st with
    | [.inr (.inr r)] => if (dt_pl y).2.1 = 5 then some (some (eR r)) else none
    | _ => none)
  | _ => none
abbrev dt_f2i : MethodName := ⟨"java/lang/Float", "floatToRawIntBits", "(F)I"⟩
/-- a cell's sort and length -/
def ev_kn (μ : eM) (r : Nat) : Option (Nat × Nat) := if r < 64 then none else μ.2.1[r - 64]?
/-- a row whose first places are another one's -/
def ev_cp (f g : Nat → Int) (n : Nat) : Nat → Int := fun q => if q < n then f q else g q
/-- n places of a row from sp on, laid into another one from dp on -/
def ev_cq (f g : Nat → Int) (sp dp n : Nat) : Nat → Int := fun q => if dp ≤ q ∧ q < dp + n then f (sp + (q - dp)) else g q
/-- what is called and has no rows of code: Object's constructor, the bits of a float, System.arraycopy from the first place to the first -/
def ev_o (d : Nat) (i : Instr) (a : Nat) (st : List eV) (μ : eM) : Option (List eV × eM) := match i with
  | .invokespecial _ => (match st with
    | .inr (.inr r) :: s => if a = 10 ∧ 0 < d ∧ 0 < r ∧ (s.map ev_cat).sum ≤ 8 then some (s, μ) else none
    | _ => none)
  | .invokestatic _ => (match st with
    | .inr (.inl (.inr b)) :: s => if a = 24 ∧ 0 < d ∧ (s.map ev_cat).sum ≤ 8 then some (eI b.toInt32.toInt :: s, μ) else none
    | .inl (.inl n) :: .inl (.inl dp) :: .inr (.inr r) :: .inl (.inl sp) :: .inr (.inr q) :: s => if a = 23 ∧ 0 < d ∧ (s.map ev_cat).sum ≤ 8 ∧ ev_w sp = 0 ∧ ev_w dp = 0 ∧ 0 ≤ ev_w n then (match ev_kn μ q, ev_kn μ r with
      | some (k0, n0), some (k1, n1) => if k0 = k1 ∧ (k1 = 100 ∨ k1 = 101) ∧ ev_w n ≤ (n0 : Int) ∧ ev_w n ≤ (n1 : Int) then some (s, (ev_ur μ.1 r (ev_cp (μ.1 q) (μ.1 r) (ev_w n).toNat), μ.2)) else none
      | _, _ => none) else if a = 23 ∧ 0 < d ∧ (s.map ev_cat).sum ≤ 8 ∧ 0 ≤ ev_w sp ∧ 0 ≤ ev_w dp ∧ 0 ≤ ev_w n then (match ev_kn μ q, ev_kn μ r with
      | some (k0, n0), some (k1, n1) => if k0 = k1 ∧ (k1 = 100 ∨ k1 = 101) ∧ ev_w sp + ev_w n ≤ (n0 : Int) ∧ ev_w dp + ev_w n ≤ (n1 : Int) then some (s, (ev_ur μ.1 r (ev_cq (μ.1 q) (μ.1 r) (ev_w sp).toNat (ev_w dp).toNat (ev_w n).toNat), μ.2)) else none
      | _, _ => none) else none
    | _ => none)
  | _ => none
theorem ev_o_mem {d : Nat} {i : Instr} {a : Nat} {st : List eV} {μ : eM} {z : List eV × eM} (h : ev_o d i a st μ = some z) : z.2.2 = μ.2 := by
  unfold ev_o at h
  split at h
  · split at h
    · split at h
      · cases h; rfl
      · cases h
    · cases h
  · split at h
    · split at h
      · cases h; rfl
      · cases h
    · split at h
      · split at h
        · split at h
          · cases h; rfl
          · cases h
        · cases h
      · split at h
        · split at h
          · split at h
            · cases h; rfl
            · cases h
          · cases h
        · cases h
    · cases h
  · cases h
/-- String constants: pushed; their length; a char -/
def ev_u (d : Nat) (i : Instr) (a b : Nat) (st : List eV) : Option (List eV) := match i with
  | .ldc _ => if a = 3 ∧ b < 64 ∧ 0 < b then some (eR b :: st) else none
  | .ldc_w _ => if a = 3 ∧ b < 64 ∧ 0 < b then some (eR b :: st) else none
  | .invokevirtual _ => (match st with
    | .inr (.inr r) :: s => if a = 21 ∧ 4 ≤ d ∧ r < 64 ∧ 0 < (dt_ks r).length ∧ (s.map ev_cat).sum ≤ 8 then some (eI ((dt_ks r).length : Int) :: s) else none
    | .inl (.inl i) :: .inr (.inr r) :: s => if a = 22 ∧ 4 ≤ d ∧ r < 64 ∧ 0 ≤ ev_w i ∧ ev_w i < ((dt_ks r).length : Int) ∧ (s.map ev_cat).sum ≤ 8 then some (eI ((dt_ks r).getD (ev_w i).toNat 0) :: s) else none
    | _ => none)
  | _ => none
/-- the locals at a method's entry -/
def ev_sl1 (as : List eV) : List (Option eV) := as.flatMap fun v => if ev_cat v = 2 then [some v, none] else [some v]
def ev_en (n : Nat) (as : List eV) : List (Option eV) := ev_sl1 as ++ List.replicate (n - (ev_sl1 as).length) none
/-- a call: what is handed to the method, what stays on the stack -/
noncomputable def ev_cl2 (μ : eM) (i : Instr) (a b t : Nat) (st : List eV) : Option (List eV × List eV) := if t ≤ st.length then (match i with
  | .invokestatic _ => if a = 2 ∧ ((st.drop t).map ev_cat).sum ≤ 8 ∧ (ev_sl1 (st.take t).reverse).length ≤ dt_mx b then some ((st.take t).reverse, st.drop t) else none
  | .invokevirtual _ => (match st.drop t with
    | .inr (.inr o) :: r => if a = 0 ∧ (r.map ev_cat).sum ≤ 8 ∧ (ev_sl1 (eR o :: (st.take t).reverse)).length ≤ dt_mx b ∧ ev_kd μ o = some (dt_pl b).2.2.2.2.2.2.2 then some (eR o :: (st.take t).reverse, r) else none
    | _ => none)
  | .invokespecial _ => (match st.drop t with
    | .inr (.inr o) :: r => if a = 1 ∧ (r.map ev_cat).sum ≤ 8 ∧ (ev_sl1 (eR o :: (st.take t).reverse)).length ≤ dt_mx b ∧ 64 ≤ o then some (eR o :: (st.take t).reverse, r) else none
    | _ => none)
  | _ => none) else none
/-- one step: a state, an answer, or a call -/
abbrev eS : Type := ((Nat × List (Option eV) × List eV × eM) ⊕ Option eV) ⊕ (Nat × List eV × List eV)
noncomputable def ev_1 (fg : eG) (d y pc : Nat) (q : eL) (lv : List (Option eV)) (st : List eV) (μ : eM) : Option eS := if q.1 = pc then (match ev_s q.2.1 lv st with
  | some z => some (.inl (.inl (pc + ev_len q.2.1, z.1, z.2, μ)))
  | none => (match ev_j q.2.1 q.2.2.1 pc st with
    | some z => some (.inl (.inl (z.1, lv, z.2, μ)))
    | none => (match ev_m fg q.2.1 q.2.2.2.1.1 q.2.2.2.1.2.1 q.2.2.2.1.2.2.1 q.2.2.2.2 st μ with
      | some z => some (.inl (.inl (pc + q.2.2.1, lv, z.1, z.2)))
      | none => (match ev_o d q.2.1 q.2.2.2.1.1 st μ with
        | some z => some (.inl (.inl (pc + 3, lv, z.1, z.2)))
        | none => (match ev_rt y q.2.1 st with
          | some r => some (.inl (.inr r))
          | none => (match ev_cl2 μ q.2.1 q.2.2.2.1.1 q.2.2.2.1.2.1 q.2.2.2.1.2.2.1 st with
            | some z => some (.inr (q.2.2.2.1.2.1, z.1, z.2))
            | none => (match ev_u d q.2.1 q.2.2.2.1.1 q.2.2.2.1.2.1 st with
              | some s => some (.inl (.inl (pc + q.2.2.1, lv, s, μ)))
              | none => none))))))) else none
/-- the machine: fuel, depth of calls, method, place, locals, stack, memory -/
noncomputable def ev (fg : eG) : Nat → Nat → Nat → Nat → List (Option eV) → List eV → eM → Option (Option eV × eM)
  | 0, _, _, _, _, _, _ => none
  | n + 1, d, y, pc, lv, st, μ => match ev_1 fg d y pc ((dt_co y).get pc) lv st μ with
    | some (.inl (.inl z)) => ev fg n d y z.1 z.2.1 z.2.2.1 z.2.2.2
    | some (.inl (.inr r)) => some (r, μ)
    | some (.inr z) => if 0 < d then (match ev fg n (d - 1) z.1 0 (ev_en (dt_mx z.1) z.2.1) [] μ with
      | some w => ev fg n d y (pc + 3) lv (w.1.toList ++ z.2.2) w.2
      | none => none) else none
    | none => none
/-! checks of calls and of whole methods -/
noncomputable def dt_cck (y : Nat) (i : Instr) (a b t d : Nat) : Bool := match i with
  | .invokespecial idx => if a = 10 then decide (lw_tbl[d]? = some (Cond.methodLink (dt_nm y).cls idx Lib.objectInit)) else if a = 1 then decide (lw_tbl[d]? = some (Cond.methodLink (dt_nm y).cls idx (dt_nm b))) && decide (0 < b) && decide (b < dt_NM) && decide ((dt_nm b).name = "<init>") && decide ((dt_pl b).2.1 = 0) && decide ((parseMethodDescriptor (dt_nm b).desc).map (fun d => d.parameters.length) = some t) && decide (lw_tbl[(dt_pl b).2.2.2.2.1]? = some (Cond.instanceMethod (dt_nm b))) else true
  | .invokevirtual idx => if a = 0 then decide (lw_tbl[d]? = some (Cond.methodLink (dt_nm y).cls idx (dt_nm b))) && decide (0 < b) && decide (b < dt_NM) && decide ((parseMethodDescriptor (dt_nm b).desc).map (fun d => d.parameters.length) = some t) && decide (lw_tbl[(dt_pl b).2.2.2.2.1]? = some (Cond.instanceMethod (dt_nm b))) && decide (lw_tbl[(dt_pl b).2.2.2.2.2.1]? = some (Cond.selects (dt_nm b).cls (dt_nm b) (dt_nm b))) && decide ((vwCl[(dt_pl b).2.2.2.2.2.2.2]?).map (fun q => q.1) = some (dt_nm b).cls) && decide ((dt_pl b).2.2.2.2.2.2.2 < 100) else if a = 21 then decide (lw_tbl[d]? = some (Cond.methodLink (dt_nm y).cls idx ks_len)) else if a = 22 then decide (lw_tbl[d]? = some (Cond.methodLink (dt_nm y).cls idx ks_cha)) else true
  | .invokestatic idx => if a = 2 then decide (lw_tbl[d]? = some (Cond.methodLink (dt_nm y).cls idx (dt_nm b))) && decide (0 < b) && decide (b < dt_NM) && decide ((parseMethodDescriptor (dt_nm b).desc).map (fun d => d.parameters.length) = some t) && decide (lw_tbl[(dt_pl b).2.2.2.2.1]? = some (Cond.static (dt_nm b))) else if a = 24 then decide (lw_tbl[d]? = some (Cond.methodLink (dt_nm y).cls idx dt_f2i)) else if a = 23 then decide (lw_tbl[d]? = some (Cond.methodLink (dt_nm y).cls idx arraycopyName)) else true
  | _ => true
/-- a method that is called -/
noncomputable def dt_mck (b : Nat) : Bool := decide (lw_tbl[(dt_pl b).2.2.1]? = some (Cond.code (dt_nm b) (dt_by b) (dt_mx b) (dt_rt b))) && decide (lw_tbl[(dt_pl b).2.2.2.1]? = some (Cond.initialized (dt_nm b).cls)) && plainName (dt_nm b).cls && decide ((dt_nm b).cls ≠ "java/lang/invoke/MethodHandle") && decide ((dt_nm b).cls ≠ "java/lang/invoke/VarHandle") && decide (dt_mx b ≤ 61)
/-- a row of code -/
noncomputable def dt_row (y : Nat) (q : eL) : Bool := (match decode (dt_by y) q.1 with
  | .ok z => decide (z = (q.2.1, q.2.2.1))
  | .error _ => false) && dt_lk y q.2.1 q.2.2.1 q.2.2.2.1.1 q.2.2.2.1.2.1 q.2.2.2.1.2.2.1 q.2.2.2.1.2.2.2 q.2.2.2.2 && dt_cck y q.2.1 q.2.2.2.1.1 q.2.2.2.1.2.1 q.2.2.2.1.2.2.1 q.2.2.2.1.2.2.2
noncomputable def dt_all (P : eL → Bool) : Lean.RArray eL → Bool
  | .leaf q => P q
  | .branch _ l r => dt_all P l && dt_all P r
theorem dt_all_ok {P : eL → Bool} (t : Lean.RArray eL) (h : dt_all P t = true) (i : Nat) : P (t.get i) = true := by
  induction t with
  | leaf q => exact h
  | branch p l r ihl ihr =>
    have h : (dt_all P l && dt_all P r) = true := h
    rw [Bool.and_eq_true] at h
    show P (Bool.rec (l.get i) (r.get i) (Nat.ble p i)) = true
    cases Nat.ble p i with
    | false => exact ihl h.1
    | true => exact ihr h.2
theorem dt_row_ok {y : Nat} {q : eL} (h : dt_row y q = true) : decode (dt_by y) q.1 = .ok (q.2.1, q.2.2.1) ∧ dt_lk y q.2.1 q.2.2.1 q.2.2.2.1.1 q.2.2.2.1.2.1 q.2.2.2.1.2.2.1 q.2.2.2.1.2.2.2 q.2.2.2.2 = true ∧ dt_cck y q.2.1 q.2.2.2.1.1 q.2.2.2.1.2.1 q.2.2.2.1.2.2.1 q.2.2.2.1.2.2.2 = true := by
  unfold dt_row at h
  simp only [Bool.and_eq_true] at h
  obtain ⟨⟨h1, h2⟩, h3⟩ := h
  refine ⟨?_, h2, h3⟩
  split at h1
  · rename_i z hz
    rw [hz, of_decide_eq_true h1]
  · cases h1
/-! entry -/
theorem ev_sl1_cons (v : eV) (as : List eV) : ev_sl1 (v :: as) = (if ev_cat v = 2 then [some v, none] else [some v]) ++ ev_sl1 as := by
  unfold ev_sl1
  rw [List.flatMap_cons]
theorem lg_sl_cons (v : Value) (as : List Value) : lg_sl (v :: as) = (if v.category = 2 then [.val v, .second] else [.val v]) ++ lg_sl as := by
  unfold lg_sl
  rw [List.flatMap_cons]
theorem ev_sl1_len (ad : Nat → Nat) (as : List eV) : (lg_sl (as.map (ev_c ad))).length = (ev_sl1 as).length := by
  induction as with
  | nil => rfl
  | cons v as ih =>
    rw [List.map_cons, lg_sl_cons, ev_sl1_cons, List.length_append, List.length_append, ih, ev_cat_ok]
    split <;> rfl
theorem ev_sl1_get (ad : Nat → Nat) (as : List eV) : ∀ (i : Nat) (v : eV), (ev_sl1 as)[i]? = some (some v) → (lg_sl (as.map (ev_c ad)))[i]? = some (.val (ev_c ad v)) := by
  induction as with
  | nil =>
    intro i v h
    cases h
  | cons w as ih =>
    intro i v h
    rw [List.map_cons, lg_sl_cons, ev_cat_ok]
    rw [ev_sl1_cons] at h
    split at h
    · rename_i h2
      rw [if_pos h2]
      match i, h with
      | 0, h => cases h; rfl
      | 1, h => cases h
      | i + 2, h => exact ih i v h
    · rename_i h2
      rw [if_neg h2]
      match i, h with
      | 0, h => cases h; rfl
      | i + 1, h => exact ih i v h
theorem ev_en_ok (ad : Nat → Nat) (as : List eV) {n : Nat} (h : (ev_sl1 as).length ≤ n) : ev_LH ad ((lg_sl (as.map (ev_c ad)) ++ List.replicate (n - (lg_sl (as.map (ev_c ad))).length) Slot.unset).toArray) n (ev_en n as) := by
  have h1 := lv_entry (as.map (ev_c ad)) (n := n) (by rw [ev_sl1_len]; exact h)
  refine ⟨h1.1, ?_, h1.2.1, fun i v hi => ?_⟩
  · unfold ev_en
    rw [List.length_append, List.length_replicate]
    omega
  · unfold ev_en at hi
    rw [List.getElem?_toArray]
    by_cases hl : i < (ev_sl1 as).length
    · rw [List.getElem?_append_left hl] at hi
      rw [List.getElem?_append_left (by rw [ev_sl1_len]; exact hl)]
      exact ev_sl1_get ad as i v hi
    · rw [List.getElem?_append_right (by omega), List.getElem?_replicate] at hi
      split at hi <;> cases hi
theorem ev_sum (ad : Nat → Nat) (st : List eV) : ((st.map (ev_c ad)).map fun v => v.category).sum = (st.map ev_cat).sum := by
  rw [List.map_map]
  congr 1
  apply List.map_congr_left
  intro v _
  exact ev_cat_ok ad v
theorem ev_blind (k : eK) (fg : eG) (μ : eM) (av : List Value) : FrameBlind (va_Pc av (fun U => ev_U k fg U U.heap ∧ ev_Wd k μ U.heap)) := fun a U g mk h => ⟨h.1, ev_U.same (s := U) rfl h.2.1, h.2.2⟩
def ev_Q (k : eK) (r : Option eV) (μ : eM) : Array Value → State → Outcome → State → Prop := fun _ st oc t => oc = .returned (r.map (ev_c (ev_ad k))) ∧ ev_Wd k μ t.heap ∧ ∀ q : Nat, q < k.1 → t.heap[q]? = st.heap[q]?
theorem dt_Gin {b : Nat} (h : dt_mck b = true) : GoodIn dt_G (Cond.code (dt_nm b) (dt_by b) (dt_mx b) (dt_rt b) :: dt_G) := by
  unfold dt_mck at h
  simp only [Bool.and_eq_true, decide_eq_true_eq] at h
  have hc : Cond.code (dt_nm b) (dt_by b) (dt_mx b) (dt_rt b) ∈ dt_G := dt_inG h.1.1.1.1.1 rfl
  intro w hw
  have hm : w ∈ dt_G := by
    rcases List.mem_cons.mp hw with rfl | h1
    · exact hc
    · exact h1
  exact ⟨hm, good_of_word (List.mem_filter.mp hm).2⟩
theorem ev_call {p : Program} {l : Launch} {e : Env} {R : Room} {s : State} {m : MethodId} {args : Array Value} {below : List Frame} {meth : Method} {c : Code} {H : Heap} {locs : List Loc} {cells slots : Nat} {Q : State → Prop} {pc : Nat} {ls : Array Slot} {k : eK} {fg : eG} {y : Nat} {μ : eM} {rest : List Value} (X : ev_X k fg y p s m args meth c) (hI : ev_I k μ s.heap H locs) (hls : ls.size = dt_mx y) {i : Instr} {a b t d : Nat} (hck : dt_cck y i a b t d = true) (hmk : dt_mck b = true) (hdg : decode (dt_by y) pc = .ok (i, 3)) {st as rs : List eV} (h : ev_cl2 μ i a b t st = some (as, rs)) {rm : Room} {mc ms : Nat} (hrc : rm.cells = mc) (hrs : rm.slots = ms) (hfr : rm.frames + 1 ≤ R.frames) (hlo : 8 + (dt_mx b + 11) + rm.locals ≤ R.locals) (hcs : cells + mc ≤ R.cells) (hss : slots + ms ≤ R.slots)
    {Qc : Array Value → State → Outcome → State → Prop} (hM : Met l (dt_nm b) (Cond.code (dt_nm b) (dt_by b) (dt_mx b) (dt_rt b) :: dt_G) rm (va_Pc (as.map (ev_c (ev_ad k))) (fun U => ev_U k fg U U.heap ∧ ev_Wd k μ U.heap)) Qc mc ms (ev_B k)) : ∃ av : Array Value, va_Run p l e R s m args below meth c H locs cells slots mc ms (F0 m pc ls (st.map (ev_c (ev_ad k)))) (rs.map (ev_c (ev_ad k))) (Qc av) (ev_B k) := by
  obtain ⟨hx, hb, hml, hown, hts, hU, -⟩ := X
  have hG := dt_Gin hmk
  have hmk2 := hmk
  unfold dt_mck at hmk2
  simp only [Bool.and_eq_true, decide_eq_true_eq] at hmk2
  obtain ⟨⟨⟨⟨⟨-, hini⟩, -⟩, hy1⟩, hy2⟩, -⟩ := hmk2
  have hini := hts _ (dt_inG hini rfl)
  have hpc : ∀ U : State, U.heap = H → s.WarmedH U.vm → ev_U k fg U U.heap ∧ ev_Wd k μ U.heap := fun U hU' hW => by
    rw [hU']
    exact ⟨(hU.kept hI.2.1).warm hW, hI.1⟩
  unfold ev_cl2 at h
  split at h
  · rename_i ht
    have htl : (st.take t).length = t := by rw [List.length_take]; omega
    cases i
    case invokestatic idx =>
      simp only at h
      split at h
      · rename_i h0
        cases h
        simp only [dt_cck, if_pos h0.1, Bool.and_eq_true, decide_eq_true_eq] at hck
        obtain ⟨⟨⟨⟨hlk, -⟩, -⟩, hpar⟩, hstt⟩ := hck
        refine ⟨_, va_runS (bytes := dt_by b) (maxL := dt_mx b) (ret := dt_rt b) (n := t) (As := ((st.take t).reverse).map (ev_c (ev_ad k))) ⟨hx, hb, hml, hown, hts⟩ hM ⟨callB_of t hts hG rfl hrc hrs hini (hts _ (dt_inG hlk rfl)) ⟨hy1, hy2, hpar⟩ ⟨hfr, hlo⟩, hts _ (dt_inG hstt rfl)⟩ ⟨ev_blind k fg μ _, fun U hU' hW => ⟨rfl, hpc U hU' hW⟩⟩ rfl (by rw [List.length_map, List.length_reverse, htl]) hls ?_ (lv_room (by rw [ev_sum]; exact h0.2.1)) hdg ⟨hcs, hss⟩⟩
        show st.map _ = _
        rw [← List.map_reverse, List.reverse_reverse, ← List.map_append, List.take_append_drop]
      · cases h
    case invokevirtual idx =>
      simp only at h
      split at h
      · rename_i ob r hd9
        split at h
        · rename_i h0
          cases h
          simp only [dt_cck, if_pos h0.1, Bool.and_eq_true, decide_eq_true_eq] at hck
          obtain ⟨⟨⟨⟨⟨⟨⟨hlk, -⟩, -⟩, hpar⟩, hinst⟩, hsel⟩, hvw⟩, hv100⟩ := hck
          obtain ⟨j, n9, rfl, hj⟩ := ev_kd_ok h0.2.2.2
          have hP := hI.1.one hj
          rw [ev_cell_o hv100] at hP
          cases hq : vwCl[(dt_pl b).2.2.2.2.2.2.2]? with
          | none => rw [hq] at hvw; cases hvw
          | some q =>
            rw [hq] at hvw
            have hvw : q.1 = (dt_nm b).cls := Option.some.inj hvw
            have hrec := va_recv (q0 := 0) (a := k.1 + j) hU.1 hP hq rfl
            rw [hvw] at hrec
            have eav : (eR (j + 64) :: (st.take t).reverse).map (ev_c (ev_ad k)) = Value.ref (k.1 + j) :: ((st.take t).reverse).map (ev_c (ev_ad k)) := by
              show ev_r (ev_ad k) (j + 64) :: _ = _
              rw [ev_r_own]
            rw [eav] at hM
            refine ⟨_, va_runV (bytes := dt_by b) (maxL := dt_mx b) (ret := dt_rt b) (n := t) (b := k.1 + j) (C := (dt_nm b).cls) (As := ((st.take t).reverse).map (ev_c (ev_ad k))) ⟨hx, hb, hml, hown, hts⟩ hM ⟨callB_of t hts hG rfl hrc hrs hini (hts _ (dt_inG hlk rfl)) ⟨hy1, hy2, hpar⟩ ⟨hfr, hlo⟩, hts _ (dt_inG hinst rfl), hts _ (dt_inG hsel rfl)⟩ ⟨ev_blind k fg μ _, hrec, fun U hU' hW => ⟨rfl, hpc U hU' hW⟩⟩ rfl (by rw [List.length_map, List.length_reverse, htl]) hls ?_ (lv_room (by rw [ev_sum]; exact h0.2.1)) hdg ⟨hcs, hss⟩⟩
            show st.map _ = _
            rw [← List.map_reverse, List.reverse_reverse, ← ev_r_own]
            show _ = _ ++ (eR (j + 64) :: rs).map (ev_c (ev_ad k))
            rw [← hd9, ← List.map_append, List.take_append_drop]
        · cases h
      · cases h
    case invokespecial idx =>
      simp only at h
      split at h
      · rename_i ob r hd9
        split at h
        · rename_i h0
          cases h
          simp only [dt_cck] at hck
          rw [if_neg (by have := h0.1; omega), if_pos h0.1] at hck
          simp only [Bool.and_eq_true, decide_eq_true_eq] at hck
          obtain ⟨⟨⟨⟨⟨⟨hlk, -⟩, -⟩, hnm⟩, hr0⟩, hpar⟩, hinst⟩ := hck
          have hrt : dt_rt b = none := by unfold dt_rt; rw [hr0]; rfl
          rw [hrt] at hM hG
          obtain ⟨j, rfl⟩ : ∃ j, ob = j + 64 := ⟨ob - 64, by have := h0.2.2.2; omega⟩
          have eav : (eR (j + 64) :: (st.take t).reverse).map (ev_c (ev_ad k)) = Value.ref (k.1 + j) :: ((st.take t).reverse).map (ev_c (ev_ad k)) := by
            show ev_r (ev_ad k) (j + 64) :: _ = _
            rw [ev_r_own]
          rw [eav] at hM
          refine ⟨_, va_runI (bytes := dt_by b) (maxL := dt_mx b) (n := t) (b := k.1 + j) (As := ((st.take t).reverse).map (ev_c (ev_ad k))) ⟨hx, hb, hml, hown, hts⟩ hM ⟨callB_of t hts hG rfl hrc hrs hini (hts _ (dt_inG hlk rfl)) ⟨hy1, hy2, hpar⟩ ⟨hfr, hlo⟩, hnm, hts _ (dt_inG hinst rfl)⟩ ⟨ev_blind k fg μ _, fun U hU' hW => ⟨rfl, hpc U hU' hW⟩⟩ rfl (by rw [List.length_map, List.length_reverse, htl]) hls ?_ (lv_room (by rw [ev_sum]; exact h0.2.1)) hdg ⟨hcs, hss⟩⟩
          show st.map _ = _
          rw [← List.map_reverse, List.reverse_reverse, ← ev_r_own]
          show _ = _ ++ (eR (j + 64) :: rs).map (ev_c (ev_ad k))
          rw [← hd9, ← List.map_append, List.take_append_drop]
        · cases h
      · cases h
    all_goals (simp at h)
  · cases h
theorem ev_mono {fg : eG} : ∀ (n d y pc : Nat) (lv : List (Option eV)) (st : List eV) (μ : eM) (r : Option eV) (μ' : eM), ev fg n d y pc lv st μ = some (r, μ') → μ.2.1.length ≤ μ'.2.1.length ∧ μ.2.2 ≤ μ'.2.2 := by
  intro n
  induction n with
  | zero =>
    intro d y pc lv st μ r μ' h
    cases h
  | succ n ih =>
    intro d y pc lv st μ r μ' h
    rw [ev] at h
    split at h
    · rename_i z hz
      have h2 := ih _ _ _ _ _ _ _ _ h
      have h1 : μ.2.1.length ≤ z.2.2.2.2.1.length ∧ μ.2.2 ≤ z.2.2.2.2.2 := by
        unfold ev_1 at hz
        split at hz
        · split at hz
          · cases hz; exact ⟨Nat.le_refl _, Nat.le_refl _⟩
          · split at hz
            · cases hz; exact ⟨Nat.le_refl _, Nat.le_refl _⟩
            · split at hz
              · rename_i hm
                cases hz
                exact ev_m_mono hm
              · split at hz
                · rename_i hw9
                  cases hz
                  have hm9 := ev_o_mem hw9
                  dsimp only
                  rw [hm9]
                  exact ⟨Nat.le_refl _, Nat.le_refl _⟩
                · split at hz
                  · cases hz
                  · split at hz
                    · cases hz
                    · split at hz
                      · cases hz; exact ⟨Nat.le_refl _, Nat.le_refl _⟩
                      · cases hz
        · cases hz
      omega
    · cases h
      exact ⟨Nat.le_refl _, Nat.le_refl _⟩
    · split at h
      · split at h
        · rename_i w hw
          have h1 := ih _ _ _ _ _ _ _ _ hw
          have h2 := ih _ _ _ _ _ _ _ _ h
          omega
        · cases h
      · cases h
    · cases h
