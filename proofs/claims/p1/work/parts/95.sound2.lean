/-! THE SMALL MACHINE IS SOUND, under weaker checks: a called method has a plain class or no row of natives; a checkcast is never run -/
theorem met_ofWF {l : Launch} {y : MethodName} {ws ws' : List Cond} {rm : Room} {Pc : Array Value → State → Prop} {Qc : Array Value → State → Outcome → State → Prop} {mc ms : Nat} {free : Addr → Prop} {cc : ByteArray} {maxL : Nat} {ret : Option FieldType}
    (hy : plainFor y = true) (hw : ws = Cond.code y cc maxL ret :: ws')
    (body : ∀ p e s m args below meth c s₁, BodyLoose p l y (headSpec ws rm) cc maxL ret e s m args below meth c s₁ → c.maxLocals = maxL → Pc args s →
      W p l e (headSpec ws rm).room s m args below meth c s.heap [] 0 0 (MQ below Qc args s mc ms free) (entryFrame m args maxL)) : Met l y ws rm Pc Qc mc ms free := by
  refine MetFree.of_bodySF (code := cc) (maxLocals := maxL) (ret := ret) hy ?_ ?_
  · intro args s m h hn
    obtain ⟨meth, c, h1, h2, h3, h4, h5, h6, -, -⟩ := Cond.code_spec hn (atoms_spec (ws := ws) h _ (by rw [hw]; exact List.mem_cons_self))
    exact ⟨meth, c, h1, h2, h3, h4, h5, h6⟩
  · intro p e s m args below meth c s₁ B hml hP _
    have hst : s₁.heap = s.heap := by rw [B.state]; rfl
    obtain ⟨t, a1, o, b1, b2, b3⟩ := body p e s m args below meth c s₁ B hml hP s₁ hst (Stand.of_body B)
    exact ⟨t, o, a1, b1, b2, ⟨b3.1, b3.2⟩⟩
def dt_isck (i : Instr) : Bool := match i with
  | .checkcast _ => true
  | _ => false
theorem ev_1_ckc {fg : eG} {d y pc : Nat} {q : eL} {lv : List (Option eV)} {st : List eV} {μ : eM} (h : dt_isck q.2.1 = true) : ev_1 fg d y pc q lv st μ = none := by
  obtain ⟨q0, i, n, ⟨a, b, t, e9⟩, x9⟩ := q
  have h : dt_isck i = true := h
  cases i <;> first | (cases h; done) | (simp [dt_isck] at h; done) | skip
  simp [ev_1, ev_s, ev_j, ev_m, ev_o, ev_rt, ev_cl2]
noncomputable def dt_ro2 (y : Nat) (q : eL) : Bool := dt_isck q.2.1 || dt_row y q
theorem dt_all_mono {P R : eL → Bool} (h : ∀ q, P q = true → R q = true) (t : Lean.RArray eL) (ht : dt_all P t = true) : dt_all R t = true := by
  induction t with
  | leaf q => exact h q ht
  | branch p l r ihl ihr =>
    have ht : (dt_all P l && dt_all P r) = true := ht
    rw [Bool.and_eq_true] at ht
    show (dt_all R l && dt_all R r) = true
    rw [ihl ht.1, ihr ht.2]
    rfl
theorem dt_ro2_of {y : Nat} (h : dt_all (dt_row y) (dt_co y) = true) : dt_all (dt_ro2 y) (dt_co y) = true := dt_all_mono (fun q hq => by unfold dt_ro2; rw [hq, Bool.or_true]) _ h
noncomputable def dt_mk2 (b : Nat) : Bool := decide (lw_tbl[(dt_pl b).2.2.1]? = some (Cond.code (dt_nm b) (dt_by b) (dt_mx b) (dt_rt b))) && decide (lw_tbl[(dt_pl b).2.2.2.1]? = some (Cond.initialized (dt_nm b).cls)) && plainFor (dt_nm b) && decide ((dt_nm b).cls ≠ "java/lang/invoke/MethodHandle") && decide ((dt_nm b).cls ≠ "java/lang/invoke/VarHandle") && decide (dt_mx b ≤ 61)
theorem dt_mk2_of {b : Nat} (h : dt_mck b = true) : dt_mk2 b = true := by
  unfold dt_mck at h
  unfold dt_mk2
  simp only [Bool.and_eq_true, decide_eq_true_eq] at h ⊢
  obtain ⟨⟨⟨⟨⟨h1, h2⟩, h3⟩, h4⟩, h5⟩, h6⟩ := h
  exact ⟨⟨⟨⟨⟨h1, h2⟩, plainFor_of_name h3⟩, h4⟩, h5⟩, h6⟩
theorem dt_Gi2 {b : Nat} (h : dt_mk2 b = true) : GoodIn dt_G (Cond.code (dt_nm b) (dt_by b) (dt_mx b) (dt_rt b) :: dt_G) := by
  unfold dt_mk2 at h
  simp only [Bool.and_eq_true, decide_eq_true_eq] at h
  have hc : Cond.code (dt_nm b) (dt_by b) (dt_mx b) (dt_rt b) ∈ dt_G := dt_inG h.1.1.1.1.1 rfl
  intro w hw
  have hm : w ∈ dt_G := by
    rcases List.mem_cons.mp hw with rfl | h1
    · exact hc
    · exact h1
  exact ⟨hm, good_of_word (List.mem_filter.mp hm).2⟩
theorem ev_cal2 {p : Program} {l : Launch} {e : Env} {R : Room} {s : State} {m : MethodId} {args : Array Value} {below : List Frame} {meth : Method} {c : Code} {H : Heap} {locs : List Loc} {cells slots : Nat} {Q : State → Prop} {pc : Nat} {ls : Array Slot} {k : eK} {fg : eG} {y : Nat} {μ : eM} {rest : List Value} (X : ev_X k fg y p s m args meth c) (hI : ev_I k μ s.heap H locs) (hls : ls.size = dt_mx y) {i : Instr} {a b t d : Nat} (hck : dt_cck y i a b t d = true) (hmk : dt_mk2 b = true) (hdg : decode (dt_by y) pc = .ok (i, 3)) {st as rs : List eV} (h : ev_cl2 μ i a b t st = some (as, rs)) {rm : Room} {mc ms : Nat} (hrc : rm.cells = mc) (hrs : rm.slots = ms) (hfr : rm.frames + 1 ≤ R.frames) (hlo : 8 + (dt_mx b + 11) + rm.locals ≤ R.locals) (hcs : cells + mc ≤ R.cells) (hss : slots + ms ≤ R.slots)
    {Qc : Array Value → State → Outcome → State → Prop} (hM : Met l (dt_nm b) (Cond.code (dt_nm b) (dt_by b) (dt_mx b) (dt_rt b) :: dt_G) rm (va_Pc (as.map (ev_c (ev_ad k))) (fun U => ev_U k fg U U.heap ∧ ev_Wd k μ U.heap)) Qc mc ms (ev_B k)) : ∃ av : Array Value, va_Run p l e R s m args below meth c H locs cells slots mc ms (F0 m pc ls (st.map (ev_c (ev_ad k)))) (rs.map (ev_c (ev_ad k))) (Qc av) (ev_B k) := by
  obtain ⟨hx, hb, hml, hown, hts, hU, -⟩ := X
  have hG := dt_Gi2 hmk
  have hmk2 := hmk
  unfold dt_mk2 at hmk2
  simp only [Bool.and_eq_true, decide_eq_true_eq] at hmk2
  obtain ⟨⟨⟨⟨⟨-, hini⟩, -⟩, hy1⟩, hy2⟩, -⟩ := hmk2
  have hini := hts _ (dt_inG hini rfl)
  have hpc : ∀ U : State, U.heap = H → s.WarmedH U.vm → ev_U k fg U U.heap ∧ ev_Wd k μ U.heap := fun U hU' hW => by
    rw [hU']
    exact ⟨(hU.kept hI.2.1).warm hW, hI.1⟩
  unfold ev_cl2 at h
  split at h
  · rename_i ht
    have htl : (st.take t).length = t := by rw [List.length_take]; omega
    cases i
    case invokestatic idx =>
      simp only at h
      split at h
      · rename_i h0
        cases h
        simp only [dt_cck, if_pos h0.1, Bool.and_eq_true, decide_eq_true_eq] at hck
        obtain ⟨⟨⟨⟨hlk, -⟩, -⟩, hpar⟩, hstt⟩ := hck
        refine ⟨_, va_runS (bytes := dt_by b) (maxL := dt_mx b) (ret := dt_rt b) (n := t) (As := ((st.take t).reverse).map (ev_c (ev_ad k))) ⟨hx, hb, hml, hown, hts⟩ hM ⟨callB_of t hts hG rfl hrc hrs hini (hts _ (dt_inG hlk rfl)) ⟨hy1, hy2, hpar⟩ ⟨hfr, hlo⟩, hts _ (dt_inG hstt rfl)⟩ ⟨ev_blind k fg μ _, fun U hU' hW => ⟨rfl, hpc U hU' hW⟩⟩ rfl (by rw [List.length_map, List.length_reverse, htl]) hls ?_ (lv_room (by rw [ev_sum]; exact h0.2.1)) hdg ⟨hcs, hss⟩⟩
        show st.map _ = _
        rw [← List.map_reverse, List.reverse_reverse, ← List.map_append, List.take_append_drop]
      · cases h
    case invokevirtual idx =>
      simp only at h
      split at h
      · rename_i ob r hd9
        split at h
        · rename_i h0
          cases h
          simp only [dt_cck, if_pos h0.1, Bool.and_eq_true, decide_eq_true_eq] at hck
          obtain ⟨⟨⟨⟨⟨⟨⟨hlk, -⟩, -⟩, hpar⟩, hinst⟩, hsel⟩, hvw⟩, hv100⟩ := hck
          obtain ⟨j, n9, rfl, hj⟩ := ev_kd_ok h0.2.2.2
          have hP := hI.1.one hj
          rw [ev_cell_o hv100] at hP
          cases hq : vwCl[(dt_pl b).2.2.2.2.2.2.2]? with
          | none => rw [hq] at hvw; cases hvw
          | some q =>
            rw [hq] at hvw
            have hvw : q.1 = (dt_nm b).cls := Option.some.inj hvw
            have hrec := va_recv (q0 := 0) (a := k.1 + j) hU.1 hP hq rfl
            rw [hvw] at hrec
            have eav : (eR (j + 64) :: (st.take t).reverse).map (ev_c (ev_ad k)) = Value.ref (k.1 + j) :: ((st.take t).reverse).map (ev_c (ev_ad k)) := by
              show ev_r (ev_ad k) (j + 64) :: _ = _
              rw [ev_r_own]
            rw [eav] at hM
            refine ⟨_, va_runV (bytes := dt_by b) (maxL := dt_mx b) (ret := dt_rt b) (n := t) (b := k.1 + j) (C := (dt_nm b).cls) (As := ((st.take t).reverse).map (ev_c (ev_ad k))) ⟨hx, hb, hml, hown, hts⟩ hM ⟨callB_of t hts hG rfl hrc hrs hini (hts _ (dt_inG hlk rfl)) ⟨hy1, hy2, hpar⟩ ⟨hfr, hlo⟩, hts _ (dt_inG hinst rfl), hts _ (dt_inG hsel rfl)⟩ ⟨ev_blind k fg μ _, hrec, fun U hU' hW => ⟨rfl, hpc U hU' hW⟩⟩ rfl (by rw [List.length_map, List.length_reverse, htl]) hls ?_ (lv_room (by rw [ev_sum]; exact h0.2.1)) hdg ⟨hcs, hss⟩⟩
            show st.map _ = _
            rw [← List.map_reverse, List.reverse_reverse, ← ev_r_own]
            show _ = _ ++ (eR (j + 64) :: rs).map (ev_c (ev_ad k))
            rw [← hd9, ← List.map_append, List.take_append_drop]
        · cases h
      · cases h
    case invokespecial idx =>
      simp only at h
      split at h
      · rename_i ob r hd9
        split at h
        · rename_i h0
          cases h
          simp only [dt_cck] at hck
          rw [if_neg (by have := h0.1; omega), if_pos h0.1] at hck
          simp only [Bool.and_eq_true, decide_eq_true_eq] at hck
          obtain ⟨⟨⟨⟨⟨⟨hlk, -⟩, -⟩, hnm⟩, hr0⟩, hpar⟩, hinst⟩ := hck
          have hrt : dt_rt b = none := by unfold dt_rt; rw [hr0]; rfl
          rw [hrt] at hM hG
          obtain ⟨j, rfl⟩ : ∃ j, ob = j + 64 := ⟨ob - 64, by have := h0.2.2.2; omega⟩
          have eav : (eR (j + 64) :: (st.take t).reverse).map (ev_c (ev_ad k)) = Value.ref (k.1 + j) :: ((st.take t).reverse).map (ev_c (ev_ad k)) := by
            show ev_r (ev_ad k) (j + 64) :: _ = _
            rw [ev_r_own]
          rw [eav] at hM
          refine ⟨_, va_runI (bytes := dt_by b) (maxL := dt_mx b) (n := t) (b := k.1 + j) (As := ((st.take t).reverse).map (ev_c (ev_ad k))) ⟨hx, hb, hml, hown, hts⟩ hM ⟨callB_of t hts hG rfl hrc hrs hini (hts _ (dt_inG hlk rfl)) ⟨hy1, hy2, hpar⟩ ⟨hfr, hlo⟩, hnm, hts _ (dt_inG hinst rfl)⟩ ⟨ev_blind k fg μ _, fun U hU' hW => ⟨rfl, hpc U hU' hW⟩⟩ rfl (by rw [List.length_map, List.length_reverse, htl]) hls ?_ (lv_room (by rw [ev_sum]; exact h0.2.1)) hdg ⟨hcs, hss⟩⟩
          show st.map _ = _
          rw [← List.map_reverse, List.reverse_reverse, ← ev_r_own]
          show _ = _ ++ (eR (j + 64) :: rs).map (ev_c (ev_ad k))
          rw [← hd9, ← List.map_append, List.take_append_drop]
        · cases h
      · cases h
    all_goals (simp at h)
  · cases h
def dt_fin2 (fg : eG) : Prop := (∀ ci C T N, vwCl[ci]? = some (C, T, N) → dt_cls ci C T N) ∧ (∀ r, (fg r).1 ≠ 102) ∧ (∀ r, (fg r).1 ≠ 103) ∧ (Cond.instanceMethod Lib.objectInit ∈ dt_G ∧ dt_nat) ∧ Cond.code Lib.objectInit ⟨#[0xb1]⟩ 1 none ∈ dt_G ∧ (∀ y, y < dt_NM → dt_all (dt_ro2 y) (dt_co y) = true) ∧ ∀ y, 0 < y → y < dt_NM → dt_mk2 y = true
theorem ev_me2 {fg : eG} {l : Launch} {k : eK} {n : Nat} (ih : ev_G fg l k n) {d b : Nat} {as : List eV} {μ μ' : eM} {r : Option eV} (h : ev fg n d b 0 (ev_en (dt_mx b) as) [] μ = some (r, μ')) (hb : b < dt_NM) (hmk : dt_mk2 b = true) (hsl : (ev_sl1 as).length ≤ dt_mx b) (ha : (dt_pl b).2.1 = 5 → ∃ rt : FieldType, dt_rt b = some rt ∧ ((∃ n, rt = .object n) ∨ ∃ t, rt = .array t)) :
    Met l (dt_nm b) (Cond.code (dt_nm b) (dt_by b) (dt_mx b) (dt_rt b) :: dt_G) { frames := d, cells := μ'.2.1.length - μ.2.1.length, slots := μ'.2.2 - μ.2.2, locals := 80 * d } (va_Pc (as.map (ev_c (ev_ad k))) (fun U => ev_U k fg U U.heap ∧ ev_Wd k μ U.heap)) (ev_Q k r μ') (μ'.2.1.length - μ.2.1.length) (μ'.2.2 - μ.2.2) (ev_B k) := by
  have hpn : plainFor (dt_nm b) = true := by
    unfold dt_mk2 at hmk
    simp only [Bool.and_eq_true, decide_eq_true_eq] at hmk
    exact hmk.1.1.1.2
  refine met_ofWF (cc := dt_by b) (maxL := dt_mx b) (ret := dt_rt b) hpn rfl ?_
  intro p e s m args below meth c s₁ B hml hv
  obtain ⟨rfl, hU, hW⟩ := hv
  have hts := atoms_spec (ws := Cond.code (dt_nm b) (dt_by b) (dt_mx b) (dt_rt b) :: dt_G) B.pre
  have X : ev_X k fg b p s m (as.map (ev_c (ev_ad k))).toArray meth c := ⟨B.exec, B.bytes, hml, findClass_of_methodNamed B.named, fun w hw => hts w (List.mem_cons_of_mem _ hw), hU, B.returns, B.notSynchronized, fun q => (name_of_methodNamed B.named B.method).1.trans q⟩
  rw [lg_entry_eq]
  exact ih d b 0 _ [] μ r μ' h hb p e _ s m _ below meth c _ s.heap [] 0 0 _ μ.2.1.length μ.2.2 X ⟨hW, fun q _ => rfl, fun q hq => by cases hq⟩ (ev_en_ok (ev_ad k) as hsl) (Nat.le_refl _) (Nat.le_refl _) (Nat.sub_self _).symm (Nat.sub_self _).symm (Nat.le_refl _) (Nat.le_refl _) (Nat.le_refl _) (Nat.le_refl _)
    (fun H1 locs1 pc1 ls1 i st1 hdg hrt hI => ev_leave X hdg hrt hI ha)
set_option maxHeartbeats 1000000 in
theorem ev_ok2 {fg : eG} {l : Launch} {k : eK} (hD : dt_fin2 fg) (ha : ∀ b, b < dt_NM → (dt_pl b).2.1 = 5 → ∃ rt : FieldType, dt_rt b = some rt ∧ ((∃ n, rt = .object n) ∨ ∃ t, rt = .array t)) : ∀ n, ev_G fg l k n := by
  obtain ⟨hcl, hf2, hf3, hob1, hob2, hrow, hmk⟩ := hD
  intro n
  induction n with
  | zero =>
    intro d y pc lv st μ r μ' h
    cases h
  | succ n ih =>
    intro d y pc lv st μ r μ' h hy p e R s m args below meth c Q H locs cells slots ls c0 s0 X hI hl hc0 hs0 hcells hslots hRc hRs hfr hlo hret
    have hro := dt_all_ok _ (hrow y hy) pc
    rw [ev] at h
    generalize (dt_co y).get pc = q at h hro
    have hro : dt_row y q = true := by
      have hro : (dt_isck q.2.1 || dt_row y q) = true := hro
      rw [Bool.or_eq_true] at hro
      rcases hro with h1 | h1
      · rw [ev_1_ckc h1] at h
        first | cases h | simp at h
      · exact h1
    obtain ⟨hdg, hlk, hck⟩ := dt_row_ok hro
    split at h
    · rename_i z hz
      have hmo := ev_mono _ _ _ _ _ _ _ _ _ h
      unfold ev_1 at hz
      split at hz
      · rename_i hpc
        rw [hpc] at hdg
        split at hz
        · rename_i w hw
          cases hz
          have hn := dt_lk_len hlk hw
          rw [hn] at hdg
          exact ev_s_ok X.1 X.2.1 _ hdg hl (lv' := w.1) (st' := w.2) hw (fun ls' hl' => ih _ _ _ _ _ _ _ _ h hy p e R s m args below meth c Q H locs cells slots ls' c0 s0 X hI hl' hc0 hs0 hcells hslots hRc hRs hfr hlo hret)
        · split at hz
          · rename_i w hw
            cases hz
            exact ev_j_ok X.1 X.2.1 _ hdg (pc' := w.1) (st' := w.2) hw (ih _ _ _ _ _ _ _ _ h hy p e R s m args below meth c Q H locs cells slots ls c0 s0 X hI hl hc0 hs0 hcells hslots hRc hRs hfr hlo hret)
          · split at hz
            · rename_i w hw
              cases hz
              have hm1 := ev_m_mono (st' := w.1) (μ' := w.2) hw
              refine ev_m_ok (rest := []) X hcl hf2 hf3 hI hlk hdg (st' := w.1) (μ' := w.2) hw hc0 hs0 hcells hslots (Nat.le_trans (by have := hmo.1; simp only at this; omega) hRc) (Nat.le_trans (by have := hmo.2; simp only at this; omega) hRs) (fun H1 locs1 hI1 => ?_)
              exact ih _ _ _ _ _ _ _ _ h hy p e R s m args below meth c Q H1 locs1 _ _ ls c0 s0 X hI1 hl (Nat.le_trans hc0 hm1.1) (Nat.le_trans hs0 hm1.2) rfl rfl hRc hRs hfr hlo hret
            · split at hz
              · rename_i w hw
                cases hz
                obtain ⟨w1, w2⟩ := w
                rcases ev_o_ok hw with ⟨idx, r9, e1, e2, e3, e4, e5, e6⟩ | ⟨idx, b9, s9, e1, e2, e6, e7, e3, e4, e5⟩ | ⟨idx, n9, dp9, sp9, r9, q9, k9, m0, m1, e1, e2, e3, e4, e5, e6⟩
                rotate_left
                · rw [e1] at hdg hck hlk
                  have hn : q.2.2.1 = 3 := of_decide_eq_true hlk
                  rw [hn] at hdg
                  simp only [dt_cck] at hck
                  rw [if_neg (by omega), if_pos e3] at hck
                  have hlink := X.2.2.2.2.1 _ (dt_inG (of_decide_eq_true hck) rfl)
                  subst e2
                  dsimp only at h
                  rw [e6, e7] at h
                  refine vn_f2i (b := b9) X.1 X.2.1 (X.2.2.1.trans hl.1.symm) X.2.2.2.1 hlink (X.2.2.2.2.1 _ hob1.2.1) (X.2.2.2.2.1 _ hob1.2.2.1) (X.2.2.2.2.1 _ hob1.2.2.2.1) (Nat.le_trans e4 hfr) (by
                    have h9 := ev_sum (ev_ad k) s9
                    omega) hdg ?_
                  have h8 := ih _ _ _ _ _ _ _ _ h hy p e R s m args below meth c Q H locs cells slots ls c0 s0 X hI hl hc0 hs0 hcells hslots hRc hRs hfr hlo hret
                  have h7 : (eI b9.toInt32.toInt :: s9).map (ev_c (ev_ad k)) = .int b9.toInt32 :: s9.map (ev_c (ev_ad k)) := by
                    show Value.int (Int32.ofInt b9.toInt32.toInt) :: _ = _
                    rw [Int32.ofInt_toInt]
                  rw [h7] at h8
                  exact h8
                · rw [e1] at hdg hck hlk
                  have hn : q.2.2.1 = 3 := of_decide_eq_true hlk
                  rw [hn] at hdg
                  simp only [dt_cck] at hck
                  rw [if_neg (by omega), if_neg (by omega), if_pos e3] at hck
                  have hlink := X.2.2.2.2.1 _ (dt_inG (of_decide_eq_true hck) rfl)
                  subst e2
                  obtain ⟨e7, e8⟩ := e6
                  dsimp only at h
                  refine ev_cpy X hI hl.1 hlink (X.2.2.2.2.1 _ hob1.2.2.2.2.1) (X.2.2.2.2.1 _ hob1.2.2.2.2.2.1) (X.2.2.2.2.1 _ hob1.2.2.2.2.2.2) e7 (Nat.le_trans e4 hfr) (by
                    have h9 := ev_sum (ev_ad k) w1
                    omega) hdg (fun H1 locs1 hI1 => ?_)
                  rw [e8] at h
                  exact ih _ _ _ _ _ _ _ _ h hy p e R s m args below meth c Q H1 locs1 cells slots ls c0 s0 X hI1 hl hc0 hs0 hcells hslots hRc hRs hfr hlo hret
                rw [e1] at hdg hck hlk
                have hn : q.2.2.1 = 3 := of_decide_eq_true hlk
                rw [hn] at hdg
                simp only [dt_cck, if_pos e3, decide_eq_true_eq] at hck
                have hlink := X.2.2.2.2.1 _ (dt_inG hck rfl)
                subst e2
                dsimp only at h
                rw [e6] at h
                exact W.objInit X.1 X.2.1 X.2.2.2.1 hlink (X.2.2.2.2.1 _ hob1.1) (X.2.2.2.2.1 _ hob2) rfl (hl.1.trans X.2.2.1.symm) rfl hdg (Nat.le_trans e4 hfr) (by
                  have h9 := ev_sum (ev_ad k) w1
                  show 2 * 0 + _ + 12 ≤ _
                  omega) (ih _ _ _ _ _ _ _ _ h hy p e R s m args below meth c Q H locs cells slots ls c0 s0 X hI hl hc0 hs0 hcells hslots hRc hRs hfr hlo hret)
              · split at hz
                · cases hz
                · split at hz <;> cases hz
      · cases hz
    · rename_i r0 hz
      cases h
      unfold ev_1 at hz
      split at hz
      · rename_i hpc
        rw [hpc] at hdg
        split at hz
        · cases hz
        · split at hz
          · cases hz
          · split at hz
            · cases hz
            · split at hz
              · cases hz
              · split at hz
                · rename_i w hw
                  cases hz
                  have hn := ev_rt_one hlk hw
                  rw [hn] at hdg
                  rw [hcells, hslots]
                  exact hret H locs pc ls _ st hdg hw hI
                · split at hz <;> cases hz
      · cases hz
    · rename_i z hz
      split at h
      · rename_i hd0
        split at h
        · rename_i w hw
          unfold ev_1 at hz
          split at hz
          · rename_i hpc
            rw [hpc] at hdg
            split at hz
            · cases hz
            · split at hz
              · cases hz
              · split at hz
                · cases hz
                · split at hz
                  · cases hz
                  · split at hz
                    · cases hz
                    · split at hz
                      · rename_i v hv
                        cases hz
                        have hn := ev_cl2_three hlk hv
                        rw [hn] at hdg
                        obtain ⟨hb0, hb1⟩ := ev_cl2_b hck hv
                        have hmk1 := hmk _ hb0 hb1
                        have hsl := ev_cl2_sl (as := v.1) (rs := v.2) hv
                        have hmt := ev_me2 ih (r := w.1) (μ' := w.2) hw hb1 hmk1 hsl (ha _ hb1)
                        have hm1 := ev_mono _ _ _ _ _ _ _ w.1 w.2 hw
                        have hm2 := ev_mono _ _ _ _ _ _ _ _ _ h
                        have h61 : dt_mx q.2.2.2.1.2.1 ≤ 61 := by
                          unfold dt_mk2 at hmk1
                          simp only [Bool.and_eq_true, decide_eq_true_eq] at hmk1
                          exact hmk1.2
                        obtain ⟨av, hrun⟩ := ev_cal2 (rest := []) (Q := Q) (R := R) (e := e) (below := below) (locs := locs) (cells := cells) (slots := slots) (mc := w.2.2.1.length - μ.2.1.length) (ms := w.2.2.2 - μ.2.2) X hI hl.1 hck hmk1 hdg (as := v.1) (rs := v.2) hv rfl rfl (by show d - 1 + 1 ≤ R.frames; omega) (by show 8 + (dt_mx _ + 11) + 80 * (d - 1) ≤ R.locals; omega) (by omega) (by omega) hmt
                        intro T hT X9
                        obtain ⟨va, st0, t9, T', L, h0, X2, hL, e1, e2, hq, hst⟩ := hrun T hT X9
                        obtain ⟨q1, q2, q3⟩ := hq
                        have q1 : va = w.1.map (ev_c (ev_ad k)) := by cases q1; rfl
                        have hI2 : ev_I k w.2 s.heap T'.heap (locs ++ L) := by
                          refine ⟨by rw [e1]; exact q2, fun q hq => ?_, fun q hq => ?_⟩
                          · rw [e1, q3 q hq, h0]
                            exact hI.2.1 q hq
                          · rcases List.mem_append.mp hq with h9 | h9
                            · exact hI.2.2 q h9
                            · exact hL q h9
                        have hk := ih _ _ _ _ _ _ _ _ h hy p e R s m args below meth c Q T'.heap (locs ++ L) (cells + (w.2.2.1.length - μ.2.1.length)) (slots + (w.2.2.2 - μ.2.2)) ls c0 s0 X hI2 hl (by omega) (by omega) (by omega) (by omega) hRc hRs hfr hlo hret T' rfl X2
                        obtain ⟨t2, a1, b1⟩ := hk
                        refine ⟨t2, hst t2 ?_, b1⟩
                        rw [q1]
                        have e9 : (w.1.map (ev_c (ev_ad k))).toList ++ v.2.map (ev_c (ev_ad k)) = (w.1.toList ++ v.2).map (ev_c (ev_ad k)) := by
                          rw [List.map_append]
                          cases w.1 <;> rfl
                        rw [e9]
                        exact a1
                      · cases hz
          · cases hz
        · cases h
      · cases h
    · cases h
theorem ev_la2 {p : Program} {e : Env} {s : State} {m : MethodId} {below : List Frame} {meth : Method} {c : Code} (l : Launch) {b L : Nat} {xs : Nat → Int32} (hL : L < 2 ^ 31) (C0 : lw_At p s m meth c b L xs)
    (hD : dt_fin2 (dt_fg L (fun j => (xs j).toInt))) (ha : ∀ b, b < dt_NM → (dt_pl b).2.1 = 5 → ∃ rt : FieldType, dt_rt b = some rt ∧ ((∃ n, rt = .object n) ∨ ∃ t, rt = .array t))
    (hst : ∀ q ∈ dt_st, dt_sck q) (hst2 : ∀ r : Nat, dt_sk r ≠ 0 → ∃ q ∈ dt_st, q.2.2.2 = r) (hst3 : ∀ q ∈ dt_st, ∀ q' ∈ dt_st, q.2.2.2 = q'.2.2.2 → q = q') (haw : Cond.arrayClass .int ∈ lw_tbl ∧ Cond.arrayClass .long ∈ lw_tbl ∧ Cond.arrayClass .byte ∈ lw_tbl ∧ Cond.arrayClass .boolean ∈ lw_tbl)
    (run : ∃ (n : Nat) (μ' : eM), ev (dt_fg L (fun j => (xs j).toInt)) n 40 0 0 (ev_en 4 [eR 1]) [] dt_M0 = some (some (eI 1), μ') ∧ μ'.2.1.length ≤ 600000 ∧ μ'.2.2 ≤ 7302250) :
    W p l e room_1 s m #[Value.ref b] below meth c s.heap [] 0 0 (lw_Z below #[Value.ref b] s) (entryFrame m ([Value.ref b] : List Value).toArray 4) := by
  obtain ⟨hx, hb, hr, hml, hown, hts, hX, hbl, hlocks, hgv⟩ := C0
  obtain ⟨n, μ', hrun, hc, hs⟩ := run
  obtain ⟨k, hk1, hk2, hU⟩ := dt_knows hD.1 hst hst2 hst3 haw hts hX hbl hL hgv
  have X : ev_X k (dt_fg L (fun j => (xs j).toInt)) 0 p s m #[Value.ref b] meth c := ⟨hx, hb, hml, hown, fun w hw => hts w (List.mem_filter.mp hw).1, hU, hr, hlocks, fun q => absurd q (by decide +kernel)⟩
  have hmap : ([eR 1] : List eV).map (ev_c (ev_ad k)) = [Value.ref b] := by
    show [Value.ref (ev_ad k 1)] = _
    unfold ev_ad
    rw [if_pos (by decide), hk2]
  have hl := ev_en_ok (ev_ad k) [eR 1] (n := 4) (by decide)
  rw [hmap] at hl
  have hW0 : ev_Wd k dt_M0 s.heap := ⟨by rw [hk1]; rfl, fun j kd n h => by cases h⟩
  rw [lg_entry_eq]
  exact ev_ok2 hD ha n 40 0 0 (ev_en 4 [eR 1]) [] dt_M0 (some (eI 1)) μ' hrun (by decide) p e room_1 s m #[Value.ref b] below meth c (lw_Z below #[Value.ref b] s) s.heap [] 0 0 _ 0 0 X ⟨hW0, fun q _ => rfl, fun q hq => by cases hq⟩ hl (Nat.zero_le _) (Nat.zero_le _) rfl rfl hc hs (Nat.le_of_ble_eq_true rfl) (Nat.le_of_ble_eq_true rfl) (fun H1 locs1 pc1 ls1 i st1 hdg hrt hI => by
    obtain ⟨e1, e2⟩ := ev_rt_law hrt
    subst e1
    subst e2
    refine W.widen (k := 600000) (n := 7302250) hc hs ?_
    refine va_forget (fun q hq => by rw [← hk1]; exact hI.2.2 q hq) ?_
    exact lw_ret (Drawn.sameBut.refl s.drawn lw_cs) hx hb hr hlocks hdg)
/-! the last methods -/
theorem dt_r366 : dt_all (dt_ro2 366) (dt_co 366) = true := by decide +kernel
theorem dt_r367 : dt_all (dt_ro2 367) (dt_co 367) = true := by decide +kernel
theorem dt_m359 : dt_mk2 359 = true := by decide +kernel
theorem dt_m360 : dt_mk2 360 = true := by decide +kernel
theorem dt_m361 : dt_mk2 361 = true := by decide +kernel
theorem dt_m362 : dt_mk2 362 = true := by decide +kernel
theorem dt_m363 : dt_mk2 363 = true := by decide +kernel
theorem dt_m364 : dt_mk2 364 = true := by decide +kernel
theorem dt_R11 : ∀ y, y < 368 → dt_all (dt_ro2 y) (dt_co y) = true := dt_one (dt_one (fun y hy => dt_ro2_of (dt_R10 y hy)) dt_r366) dt_r367
theorem dt_Q11 : ∀ y, y < 368 → 0 < y → dt_mk2 y = true := (dt_one (dt_one (dt_one (dt_one (dt_one (dt_one (dt_one (dt_one (dt_one (fun y hy h0 => dt_mk2_of (dt_Q10 y hy h0)) (fun _ => dt_m359)) (fun _ => dt_m360)) (fun _ => dt_m361)) (fun _ => dt_m362)) (fun _ => dt_m363)) (fun _ => dt_m364)) (fun _ => dt_mk2_of dt_m365)) (fun _ => dt_mk2_of dt_m366)) (fun _ => dt_mk2_of dt_m367))
