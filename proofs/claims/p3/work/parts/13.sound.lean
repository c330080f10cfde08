/-! THE SMALL MACHINE IS SOUND -/
theorem dt_lk_len {y : Nat} {i : Instr} {n a b t d : Nat} {x : Int} {lv : List (Option eV)} {st : List eV} {z : List (Option eV) × List eV} (hlk : dt_lk y i n a b t d x = true) (h : ev_s i lv st = some z) : n = ev_len i := by
  cases i <;> first | exact of_decide_eq_true hlk | (simp [ev_s] at h)
/-- the words of what has no rows of code -/
def dt_nat : Prop := Cond.native dt_f2i ∈ dt_G ∧ Cond.static dt_f2i ∈ dt_G ∧ Cond.initialized "java/lang/Float" ∈ dt_G ∧ Cond.native arraycopyName ∈ dt_G ∧ Cond.static arraycopyName ∈ dt_G ∧ Cond.initialized "java/lang/System" ∈ dt_G
/-- what the data must keep -/
def dt_fine (fg : eG) : Prop := (∀ ci C T N, vwCl[ci]? = some (C, T, N) → dt_cls ci C T N) ∧ (∀ r, (fg r).1 ≠ 102) ∧ (∀ r, (fg r).1 ≠ 103) ∧ (Cond.instanceMethod Lib.objectInit ∈ dt_G ∧ dt_nat) ∧ Cond.code Lib.objectInit ⟨#[0xb1]⟩ 1 none ∈ dt_G ∧ (∀ y, y < dt_NM → dt_all (dt_row y) (dt_co y) = true) ∧ ∀ y, 0 < y → y < dt_NM → dt_mck y = true
/-- a run from a state of the small machine, as the machine itself goes -/
def ev_G (fg : eG) (l : Launch) (k : eK) (n : Nat) : Prop := ∀ (d y pc : Nat) (lv : List (Option eV)) (st : List eV) (μ : eM) (r : Option eV) (μ' : eM), ev fg n d y pc lv st μ = some (r, μ') → y < dt_NM →
  ∀ (p : Program) (e : Env) (R : Room) (s : State) (m : MethodId) (args : Array Value) (below : List Frame) (meth : Method) (c : Code) (Q : State → Prop) (H : Heap) (locs : List Loc) (cells slots : Nat) (ls : Array Slot) (c0 s0 : Nat),
  ev_X k fg y p s m args meth c → ev_I k μ s.heap H locs → ev_LH (ev_ad k) ls (dt_mx y) lv → c0 ≤ μ.2.1.length → s0 ≤ μ.2.2 → cells = μ.2.1.length - c0 → slots = μ.2.2 - s0 → μ'.2.1.length - c0 ≤ R.cells → μ'.2.2 - s0 ≤ R.slots → d ≤ R.frames → 80 * d ≤ R.locals →
  (∀ (H1 : Heap) (locs1 : List Loc) (pc1 : Nat) (ls1 : Array Slot) (i : Instr) (st1 : List eV), decode (dt_by y) pc1 = .ok (i, 1) → ev_rt y i st1 = some r → ev_I k μ' s.heap H1 locs1 → W p l e R s m args below meth c H1 locs1 (μ'.2.1.length - c0) (μ'.2.2 - s0) Q (F0 m pc1 ls1 (st1.map (ev_c (ev_ad k))))) →
  W p l e R s m args below meth c H locs cells slots Q (F0 m pc ls (st.map (ev_c (ev_ad k))))
theorem ev_rt_one {y : Nat} {i : Instr} {n a b t d : Nat} {x : Int} {st : List eV} {r : Option eV} (hlk : dt_lk y i n a b t d x = true) (h : ev_rt y i st = some r) : n = 1 := by
  cases i <;> first | exact of_decide_eq_true hlk | (simp [ev_rt] at h)
theorem ev_cl2_three {y : Nat} {i : Instr} {n a b t d : Nat} {x : Int} {μ : eM} {st : List eV} {z : List eV × List eV} (hlk : dt_lk y i n a b t d x = true) (h : ev_cl2 μ i a b t st = some z) : n = 3 := by
  cases i <;> first | exact of_decide_eq_true hlk | (simp [ev_cl2] at h)
/-- what System.arraycopy asks -/
def ev_cpq (μ : eM) (n dp sp : Int) (r q kd n0 n1 : Nat) : Prop := ev_kn μ q = some (kd, n0) ∧ ev_kn μ r = some (kd, n1) ∧ (kd = 100 ∨ kd = 101) ∧ ev_w sp = 0 ∧ ev_w dp = 0 ∧ 0 ≤ ev_w n ∧ ev_w n ≤ (n0 : Int) ∧ ev_w n ≤ (n1 : Int)
def ev_cpr (μ : eM) (n dp sp : Int) (r q kd n0 n1 : Nat) : Prop := ev_kn μ q = some (kd, n0) ∧ ev_kn μ r = some (kd, n1) ∧ (kd = 100 ∨ kd = 101) ∧ 0 ≤ ev_w sp ∧ 0 ≤ ev_w dp ∧ 0 ≤ ev_w n ∧ ev_w sp + ev_w n ≤ (n0 : Int) ∧ ev_w dp + ev_w n ≤ (n1 : Int)
theorem ev_o_ok {d : Nat} {i : Instr} {a : Nat} {st st' : List eV} {μ μ' : eM} (h : ev_o d i a st μ = some (st', μ')) : (∃ idx r : Nat, i = .invokespecial idx ∧ st = eR (r + 1) :: st' ∧ a = 10 ∧ 0 < d ∧ (st'.map ev_cat).sum ≤ 8 ∧ μ' = μ) ∨ (∃ (idx : Nat) (b : UInt32) (s : List eV), i = .invokestatic idx ∧ st = eF b :: s ∧ st' = eI b.toInt32.toInt :: s ∧ μ' = μ ∧ a = 24 ∧ 0 < d ∧ (s.map ev_cat).sum ≤ 8) ∨ (∃ (idx : Nat) (n dp sp : Int) (r q kd n0 n1 : Nat), i = .invokestatic idx ∧ st = eI n :: eI dp :: eR r :: eI sp :: eR q :: st' ∧ a = 23 ∧ 0 < d ∧ (st'.map ev_cat).sum ≤ 8 ∧ ev_cpq μ n dp sp r q kd n0 n1 ∧ μ' = (ev_ur μ.1 r (ev_cp (μ.1 q) (μ.1 r) (ev_w n).toNat), μ.2)) ∨ ∃ (idx : Nat) (n dp sp : Int) (r q kd n0 n1 : Nat), i = .invokestatic idx ∧ st = eI n :: eI dp :: eR r :: eI sp :: eR q :: st' ∧ a = 23 ∧ 0 < d ∧ (st'.map ev_cat).sum ≤ 8 ∧ ev_cpr μ n dp sp r q kd n0 n1 ∧ μ' = (ev_ur μ.1 r (ev_cq (μ.1 q) (μ.1 r) (ev_w sp).toNat (ev_w dp).toNat (ev_w n).toNat), μ.2) := by
  unfold ev_o at h
  split at h
  · rename_i idx
    split at h
    · rename_i r s
      split at h
      · rename_i h0
        cases h
        obtain ⟨z, rfl⟩ : ∃ z, r = z + 1 := ⟨r - 1, by have := h0.2.2.1; omega⟩
        exact Or.inl ⟨idx, z, rfl, rfl, h0.1, h0.2.1, h0.2.2.2, rfl⟩
      · cases h
    · cases h
  · rename_i idx
    split at h
    · rename_i b s
      split at h
      · rename_i h0
        cases h
        exact Or.inr (Or.inl ⟨idx, b, s, rfl, rfl, rfl, rfl, h0.1, h0.2.1, h0.2.2⟩)
      · cases h
    · rename_i n dp r sp q s
      split at h
      · rename_i h0
        split at h
        · rename_i k0 n0 k1 n1 hq hr
          split at h
          · rename_i h1
            cases h
            obtain ⟨rfl, h2, h3, h4⟩ := h1
            exact Or.inr (Or.inr (Or.inl ⟨idx, n, dp, sp, r, q, k0, n0, n1, rfl, rfl, h0.1, h0.2.1, h0.2.2.1, ⟨hq, hr, h2, h0.2.2.2.1, h0.2.2.2.2.1, h0.2.2.2.2.2, h3, h4⟩, rfl⟩))
          · cases h
        · cases h
      · split at h
        · rename_i h0
          split at h
          · rename_i k0 n0 k1 n1 hq hr
            split at h
            · rename_i h1
              cases h
              obtain ⟨rfl, h2, h3, h4⟩ := h1
              exact Or.inr (Or.inr (Or.inr ⟨idx, n, dp, sp, r, q, k0, n0, n1, rfl, rfl, h0.1, h0.2.1, h0.2.2.1, ⟨hq, hr, h2, h0.2.2.2.1, h0.2.2.2.2.1, h0.2.2.2.2.2, h3, h4⟩, rfl⟩))
            · cases h
          · cases h
        · cases h
    · cases h
  · cases h
theorem ev_kn_ok {μ : eM} {r : Nat} {z : Nat × Nat} (h : ev_kn μ r = some z) : ∃ j, r = j + 64 ∧ μ.2.1[j]? = some z := by
  unfold ev_kn at h
  split at h
  · cases h
  · exact ⟨r - 64, by omega, h⟩
theorem ev_cl2_sl {μ : eM} {i : Instr} {a b t : Nat} {st as rs : List eV} (h : ev_cl2 μ i a b t st = some (as, rs)) : (ev_sl1 as).length ≤ dt_mx b := by
  unfold ev_cl2 at h
  split at h
  · split at h
    · split at h
      · rename_i h0
        cases h
        exact h0.2.2
      · cases h
    · split at h
      · split at h
        · rename_i h0
          cases h
          exact h0.2.2.1
        · cases h
      · cases h
    · split at h
      · split at h
        · rename_i h0
          cases h
          exact h0.2.2.1
        · cases h
      · cases h
    · cases h
  · cases h
theorem ev_cl2_b {y : Nat} {i : Instr} {a b t d : Nat} {μ : eM} {st : List eV} {z : List eV × List eV} (hck : dt_cck y i a b t d = true) (h : ev_cl2 μ i a b t st = some z) : 0 < b ∧ b < dt_NM := by
  unfold ev_cl2 at h
  split at h
  · split at h
    · split at h
      · rename_i h0
        simp only [dt_cck, if_pos h0.1, Bool.and_eq_true, decide_eq_true_eq] at hck
        exact ⟨hck.1.1.1.2, hck.1.1.2⟩
      · cases h
    · split at h
      · split at h
        · rename_i h0
          simp only [dt_cck, if_pos h0.1, Bool.and_eq_true, decide_eq_true_eq] at hck
          exact ⟨hck.1.1.1.1.1.1.2, hck.1.1.1.1.1.2⟩
        · cases h
      · cases h
    · split at h
      · split at h
        · rename_i h0
          simp only [dt_cck] at hck
          rw [if_neg (by have := h0.1; omega), if_pos h0.1] at hck
          simp only [Bool.and_eq_true, decide_eq_true_eq] at hck
          exact ⟨hck.1.1.1.1.1.2, hck.1.1.1.1.2⟩
        · cases h
      · cases h
    · cases h
  · cases h

theorem ev_cpy100 {p : Program} {l : Launch} {e : Env} {R : Room} {s : State} {m : MethodId} {args : Array Value} {below : List Frame} {meth : Method} {c : Code} {H : Heap} {locs : List Loc} {cells slots : Nat} {Q : State → Prop} {pc : Nat} {ls : Array Slot} {k : eK} {fg : eG} {y : Nat} {μ : eM} {rest : List Value} (X : ev_X k fg y p s m args meth c) (hI : ev_I k μ s.heap H locs) (hls : ls.size = dt_mx y) {idx : Nat} (hlink : (Cond.methodLink (dt_nm y).cls idx arraycopyName).before args s = true) (hnat : (Cond.native arraycopyName).before args s = true) (hstat : (Cond.static arraycopyName).before args s = true) (hini : (Cond.initialized "java/lang/System").before args s = true) {n : Int} {j0 j1 n0 n1 : Nat} (hj0 : μ.2.1[j0]? = some (100, n0)) (hj1 : μ.2.1[j1]? = some (100, n1)) (hn0 : 0 ≤ ev_w n) (hn1 : ev_w n ≤ (n0 : Int)) (hn2 : ev_w n ≤ (n1 : Int)) (hframes : 1 ≤ R.frames) (hlocals : (rest.map fun v => v.category).sum + (nativeFrameWords "java/lang/System" "arraycopy" 5 + 11) ≤ R.locals) (hdg : decode (dt_by y) pc = .ok (.invokestatic idx, 3))
    (kk : ∀ (H1 : Heap) (locs1 : List Loc), ev_I k (ev_ur μ.1 (j1 + 64) (ev_cp (μ.1 (j0 + 64)) (μ.1 (j1 + 64)) (ev_w n).toNat), μ.2) s.heap H1 locs1 → W p l e R s m args below meth c H1 locs1 cells slots Q (F0 m (pc + 3) ls rest)) : W p l e R s m args below meth c H locs cells slots Q (F0 m pc ls (.int (Int32.ofInt n) :: .int 0 :: .ref (k.1 + j1) :: .int 0 :: .ref (k.1 + j0) :: rest)) := by
  obtain ⟨hx, hb, hml, hown, hts, hU, -⟩ := X
  have hnn : ¬ Int32.ofInt n < 0 := fun z => by have := (ev_lt0 n).mp z; omega
  have hnc : (Int32.ofInt n).toNatClampNeg = (ev_w n).toNat := ev_nat n
  have hni : (Int32.ofInt n).toInt = ev_w n := ev_w_ok n
  have h00 : (0 : Int32).toInt = 0 := rfl
  have h01 : (0 : Int32).toNatClampNeg = 0 := rfl
  have hprim : refKind FieldType.int = false := rfl
  have hP0 := hI.1.2 j0 100 n0 hj0
  have hP1 := hI.1.2 j1 100 n1 hj1
  rw [ev_cell_100] at hP0 hP1
  have hc0 : H[k.1 + j0]? = some (vp_cell (k.2.2.2.1 0) (n0, .inl (fun i => Int32.ofInt (μ.1 (j0 + 64) i)))) := hP0
  have hc1 : H[k.1 + j1]? = some (vp_cell (k.2.2.2.1 0) (n1, .inl (fun i => Int32.ofInt (μ.1 (j1 + 64) i)))) := hP1
  obtain ⟨-, k0, hk0, cm0, hkk0⟩ := (hU.1.2 0 (k.2.2.2.1 0, .int) rfl).1 n0 (fun i => .int (Int32.ofInt (μ.1 (j0 + 64) i)))
  obtain ⟨-, k1, hk1, cm1, hkk1⟩ := (hU.1.2 0 (k.2.2.2.1 0, .int) rfl).1 n1 (fun i => .int (Int32.ofInt (μ.1 (j1 + 64) i)))
  have h4 : (0 : Int32).toNatClampNeg + (Int32.ofInt n).toNatClampNeg ≤ n0 := by rw [h01, hnc]; omega
  intro T hT X9
  obtain ⟨vm', X', step⟩ := X9.arraycopy hx hown hlink hnat hstat hini (src := k.1 + j0) (dst := k.1 + j1) (cs := vp_cell (k.2.2.2.1 0) (n0, .inl (fun i => Int32.ofInt (μ.1 (j0 + 64) i)))) (cd := vp_cell (k.2.2.2.1 0) (n1, .inl (fun i => Int32.ofInt (μ.1 (j1 + 64) i)))) (srcPos := 0) (destPos := 0) (n := Int32.ofInt n) (by rw [hT]; exact hc0) (by rw [hT]; exact hc1)
    (fun _ h => by cases h) (fun _ h => by cases h) (fun h => by cases h) (fun h => by cases h) hk0 hk1 hkk0 hkk1 (by simp [hprim]) (by decide) (by decide) hnn
    (by rw [h00, hni]; show ¬ _ > ((arrV (k.2.2.2.1 0) n0 (fun i => .int (Int32.ofInt (μ.1 (j0 + 64) i)))).slots.size : Int); rw [arrV_size]; omega)
    (by rw [h00, hni]; show ¬ _ > ((arrV (k.2.2.2.1 0) n1 (fun i => .int (Int32.ofInt (μ.1 (j1 + 64) i)))).slots.size : Int); rw [arrV_size]; omega)
    (fun vm₁ _ i hi => by
      have e : (vp_cell (k.2.2.2.1 0) (n0, .inl (fun i => Int32.ofInt (μ.1 (j0 + 64) i)))).slots.getD ((0 : Int32).toNatClampNeg + i) .null = .int (Int32.ofInt (μ.1 (j0 + 64) ((0 : Int32).toNatClampNeg + i))) := by
        show (arrV (k.2.2.2.1 0) n0 (fun i => .int (Int32.ofInt (μ.1 (j0 + 64) i)))).slots.getD _ _ = _
        rw [Array.getD_eq_getD_getElem?, arrV_read _ _ (by omega)]
        rfl
      refine ⟨?_, ?_⟩
      · rw [e]
        rfl
      · rw [e]
        exact trivial)
    (g := F0 m pc ls (.int (Int32.ofInt n) :: .int 0 :: .ref (k.1 + j1) :: .int 0 :: .ref (k.1 + j0) :: rest)) rfl (by rw [hml]; exact hls) (rest := rest) rfl (by rw [hb]; exact hdg) hframes (by show 2 * 0 + _ + _ ≤ _; omega)
  have e1 : copied (vp_cell (k.2.2.2.1 0) (n0, .inl (fun i => Int32.ofInt (μ.1 (j0 + 64) i)))) (vp_cell (k.2.2.2.1 0) (n1, .inl (fun i => Int32.ofInt (μ.1 (j1 + 64) i)))) 0 0 (Int32.ofInt n) = vp_cell (k.2.2.2.1 0) (n1, .inl (va_cpy (fun i => Int32.ofInt (μ.1 (j0 + 64) i)) (fun i => Int32.ofInt (μ.1 (j1 + 64) i)) (0 : Int32).toNatClampNeg (0 : Int32).toNatClampNeg (Int32.ofInt n).toNatClampNeg)) := va_copied (fun z => .int z) _ _ (fun i => Int32.ofInt (μ.1 (j0 + 64) i)) (fun i => Int32.ofInt (μ.1 (j1 + 64) i)) h4
  have e2 : va_cpy (fun i => Int32.ofInt (μ.1 (j0 + 64) i)) (fun i => Int32.ofInt (μ.1 (j1 + 64) i)) (0 : Int32).toNatClampNeg (0 : Int32).toNatClampNeg (Int32.ofInt n).toNatClampNeg = fun i => Int32.ofInt (ev_cp (μ.1 (j0 + 64)) (μ.1 (j1 + 64)) (ev_w n).toNat i) := by
    funext i
    rw [h01, hnc]
    unfold va_cpy ev_cp
    by_cases hi : i < (ev_w n).toNat
    · simp [hi]
    · simp [hi]
  rw [e1, e2] at X' step
  have hl : k.1 + j1 < H.size := (Array.getElem?_eq_some_iff.mp hc1).1
  have hheap : ((T.setVm vm').setCell (k.1 + j1) (vp_cell (k.2.2.2.1 0) (n1, .inl (fun i => Int32.ofInt (ev_cp (μ.1 (j0 + 64)) (μ.1 (j1 + 64)) (ev_w n).toNat i))))).heap = H.setIfInBounds (k.1 + j1) (vp_cell (k.2.2.2.1 0) (n1, .inl (fun i => Int32.ofInt (ev_cp (μ.1 (j0 + 64)) (μ.1 (j1 + 64)) (ev_w n).toNat i)))) := by rw [← hT]; rfl
  have oq : ∀ q : Nat, q ≠ k.1 + j1 → (H.setIfInBounds (k.1 + j1) (vp_cell (k.2.2.2.1 0) (n1, .inl (fun i => Int32.ofInt (ev_cp (μ.1 (j0 + 64)) (μ.1 (j1 + 64)) (ev_w n).toNat i)))))[q]? = H[q]? := fun q hq => by simp [Array.getElem?_setIfInBounds, Ne.symm hq]
  have hI1 : ∀ L : List Loc, (∀ q ∈ L, k.1 ≤ q.base) → ev_I k (ev_ur μ.1 (j1 + 64) (ev_cp (μ.1 (j0 + 64)) (μ.1 (j1 + 64)) (ev_w n).toNat), μ.2) s.heap (H.setIfInBounds (k.1 + j1) (vp_cell (k.2.2.2.1 0) (n1, .inl (fun i => Int32.ofInt (ev_cp (μ.1 (j0 + 64)) (μ.1 (j1 + 64)) (ev_w n).toNat i))))) (locs ++ L) := by
    intro L hL
    refine ⟨hI.1.set hj1 (by simp) oq ?_, fun q hq => (oq q (by omega)).trans (hI.2.1 q hq), fun q hq => ?_⟩
    · rw [ev_cell_100]
      show (H.setIfInBounds (k.1 + j1) _)[k.1 + j1]? = some (vp_cell _ _)
      simp [Array.getElem?_setIfInBounds, hl]
    · rcases List.mem_append.mp hq with h | h
      · exact hI.2.2 q h
      · exact hL q h
  obtain ⟨t, a1, b1⟩ := kk _ _ (hI1 _ (fun q hq => by
    obtain ⟨z, -, hz⟩ := List.mem_map.mp hq
    rw [← hz]
    exact Nat.le_add_right _ _)) _ hheap X'
  exact ⟨t, step t a1, b1⟩
theorem ev_cpy101 {p : Program} {l : Launch} {e : Env} {R : Room} {s : State} {m : MethodId} {args : Array Value} {below : List Frame} {meth : Method} {c : Code} {H : Heap} {locs : List Loc} {cells slots : Nat} {Q : State → Prop} {pc : Nat} {ls : Array Slot} {k : eK} {fg : eG} {y : Nat} {μ : eM} {rest : List Value} (X : ev_X k fg y p s m args meth c) (hI : ev_I k μ s.heap H locs) (hls : ls.size = dt_mx y) {idx : Nat} (hlink : (Cond.methodLink (dt_nm y).cls idx arraycopyName).before args s = true) (hnat : (Cond.native arraycopyName).before args s = true) (hstat : (Cond.static arraycopyName).before args s = true) (hini : (Cond.initialized "java/lang/System").before args s = true) {n : Int} {j0 j1 n0 n1 : Nat} (hj0 : μ.2.1[j0]? = some (101, n0)) (hj1 : μ.2.1[j1]? = some (101, n1)) (hn0 : 0 ≤ ev_w n) (hn1 : ev_w n ≤ (n0 : Int)) (hn2 : ev_w n ≤ (n1 : Int)) (hframes : 1 ≤ R.frames) (hlocals : (rest.map fun v => v.category).sum + (nativeFrameWords "java/lang/System" "arraycopy" 5 + 11) ≤ R.locals) (hdg : decode (dt_by y) pc = .ok (.invokestatic idx, 3))
    (kk : ∀ (H1 : Heap) (locs1 : List Loc), ev_I k (ev_ur μ.1 (j1 + 64) (ev_cp (μ.1 (j0 + 64)) (μ.1 (j1 + 64)) (ev_w n).toNat), μ.2) s.heap H1 locs1 → W p l e R s m args below meth c H1 locs1 cells slots Q (F0 m (pc + 3) ls rest)) : W p l e R s m args below meth c H locs cells slots Q (F0 m pc ls (.int (Int32.ofInt n) :: .int 0 :: .ref (k.1 + j1) :: .int 0 :: .ref (k.1 + j0) :: rest)) := by
  obtain ⟨hx, hb, hml, hown, hts, hU, -⟩ := X
  have hnn : ¬ Int32.ofInt n < 0 := fun z => by have := (ev_lt0 n).mp z; omega
  have hnc : (Int32.ofInt n).toNatClampNeg = (ev_w n).toNat := ev_nat n
  have hni : (Int32.ofInt n).toInt = ev_w n := ev_w_ok n
  have h00 : (0 : Int32).toInt = 0 := rfl
  have h01 : (0 : Int32).toNatClampNeg = 0 := rfl
  have hprim : refKind FieldType.long = false := rfl
  have hP0 := hI.1.2 j0 101 n0 hj0
  have hP1 := hI.1.2 j1 101 n1 hj1
  rw [ev_cell_101] at hP0 hP1
  have hc0 : H[k.1 + j0]? = some (vp_cell (k.2.2.2.1 1) (n0, .inr (.inl (fun i => Int64.ofInt (μ.1 (j0 + 64) i))))) := hP0
  have hc1 : H[k.1 + j1]? = some (vp_cell (k.2.2.2.1 1) (n1, .inr (.inl (fun i => Int64.ofInt (μ.1 (j1 + 64) i))))) := hP1
  obtain ⟨-, k0, hk0, cm0, hkk0⟩ := (hU.1.2 1 (k.2.2.2.1 1, .long) rfl).1 n0 (fun i => .long (Int64.ofInt (μ.1 (j0 + 64) i)))
  obtain ⟨-, k1, hk1, cm1, hkk1⟩ := (hU.1.2 1 (k.2.2.2.1 1, .long) rfl).1 n1 (fun i => .long (Int64.ofInt (μ.1 (j1 + 64) i)))
  have h4 : (0 : Int32).toNatClampNeg + (Int32.ofInt n).toNatClampNeg ≤ n0 := by rw [h01, hnc]; omega
  intro T hT X9
  obtain ⟨vm', X', step⟩ := X9.arraycopy hx hown hlink hnat hstat hini (src := k.1 + j0) (dst := k.1 + j1) (cs := vp_cell (k.2.2.2.1 1) (n0, .inr (.inl (fun i => Int64.ofInt (μ.1 (j0 + 64) i))))) (cd := vp_cell (k.2.2.2.1 1) (n1, .inr (.inl (fun i => Int64.ofInt (μ.1 (j1 + 64) i))))) (srcPos := 0) (destPos := 0) (n := Int32.ofInt n) (by rw [hT]; exact hc0) (by rw [hT]; exact hc1)
    (fun _ h => by cases h) (fun _ h => by cases h) (fun h => by cases h) (fun h => by cases h) hk0 hk1 hkk0 hkk1 (by simp [hprim]) (by decide) (by decide) hnn
    (by rw [h00, hni]; show ¬ _ > ((arrV (k.2.2.2.1 1) n0 (fun i => .long (Int64.ofInt (μ.1 (j0 + 64) i)))).slots.size : Int); rw [arrV_size]; omega)
    (by rw [h00, hni]; show ¬ _ > ((arrV (k.2.2.2.1 1) n1 (fun i => .long (Int64.ofInt (μ.1 (j1 + 64) i)))).slots.size : Int); rw [arrV_size]; omega)
    (fun vm₁ _ i hi => by
      have e : (vp_cell (k.2.2.2.1 1) (n0, .inr (.inl (fun i => Int64.ofInt (μ.1 (j0 + 64) i))))).slots.getD ((0 : Int32).toNatClampNeg + i) .null = .long (Int64.ofInt (μ.1 (j0 + 64) ((0 : Int32).toNatClampNeg + i))) := by
        show (arrV (k.2.2.2.1 1) n0 (fun i => .long (Int64.ofInt (μ.1 (j0 + 64) i)))).slots.getD _ _ = _
        rw [Array.getD_eq_getD_getElem?, arrV_read _ _ (by omega)]
        rfl
      refine ⟨?_, ?_⟩
      · rw [e]
        rfl
      · rw [e]
        exact trivial)
    (g := F0 m pc ls (.int (Int32.ofInt n) :: .int 0 :: .ref (k.1 + j1) :: .int 0 :: .ref (k.1 + j0) :: rest)) rfl (by rw [hml]; exact hls) (rest := rest) rfl (by rw [hb]; exact hdg) hframes (by show 2 * 0 + _ + _ ≤ _; omega)
  have e1 : copied (vp_cell (k.2.2.2.1 1) (n0, .inr (.inl (fun i => Int64.ofInt (μ.1 (j0 + 64) i))))) (vp_cell (k.2.2.2.1 1) (n1, .inr (.inl (fun i => Int64.ofInt (μ.1 (j1 + 64) i))))) 0 0 (Int32.ofInt n) = vp_cell (k.2.2.2.1 1) (n1, .inr (.inl (va_cpy (fun i => Int64.ofInt (μ.1 (j0 + 64) i)) (fun i => Int64.ofInt (μ.1 (j1 + 64) i)) (0 : Int32).toNatClampNeg (0 : Int32).toNatClampNeg (Int32.ofInt n).toNatClampNeg))) := va_copied (fun z => .long z) _ _ (fun i => Int64.ofInt (μ.1 (j0 + 64) i)) (fun i => Int64.ofInt (μ.1 (j1 + 64) i)) h4
  have e2 : va_cpy (fun i => Int64.ofInt (μ.1 (j0 + 64) i)) (fun i => Int64.ofInt (μ.1 (j1 + 64) i)) (0 : Int32).toNatClampNeg (0 : Int32).toNatClampNeg (Int32.ofInt n).toNatClampNeg = fun i => Int64.ofInt (ev_cp (μ.1 (j0 + 64)) (μ.1 (j1 + 64)) (ev_w n).toNat i) := by
    funext i
    rw [h01, hnc]
    unfold va_cpy ev_cp
    by_cases hi : i < (ev_w n).toNat
    · simp [hi]
    · simp [hi]
  rw [e1, e2] at X' step
  have hl : k.1 + j1 < H.size := (Array.getElem?_eq_some_iff.mp hc1).1
  have hheap : ((T.setVm vm').setCell (k.1 + j1) (vp_cell (k.2.2.2.1 1) (n1, .inr (.inl (fun i => Int64.ofInt (ev_cp (μ.1 (j0 + 64)) (μ.1 (j1 + 64)) (ev_w n).toNat i)))))).heap = H.setIfInBounds (k.1 + j1) (vp_cell (k.2.2.2.1 1) (n1, .inr (.inl (fun i => Int64.ofInt (ev_cp (μ.1 (j0 + 64)) (μ.1 (j1 + 64)) (ev_w n).toNat i))))) := by rw [← hT]; rfl
  have oq : ∀ q : Nat, q ≠ k.1 + j1 → (H.setIfInBounds (k.1 + j1) (vp_cell (k.2.2.2.1 1) (n1, .inr (.inl (fun i => Int64.ofInt (ev_cp (μ.1 (j0 + 64)) (μ.1 (j1 + 64)) (ev_w n).toNat i))))))[q]? = H[q]? := fun q hq => by simp [Array.getElem?_setIfInBounds, Ne.symm hq]
  have hI1 : ∀ L : List Loc, (∀ q ∈ L, k.1 ≤ q.base) → ev_I k (ev_ur μ.1 (j1 + 64) (ev_cp (μ.1 (j0 + 64)) (μ.1 (j1 + 64)) (ev_w n).toNat), μ.2) s.heap (H.setIfInBounds (k.1 + j1) (vp_cell (k.2.2.2.1 1) (n1, .inr (.inl (fun i => Int64.ofInt (ev_cp (μ.1 (j0 + 64)) (μ.1 (j1 + 64)) (ev_w n).toNat i)))))) (locs ++ L) := by
    intro L hL
    refine ⟨hI.1.set hj1 (by simp) oq ?_, fun q hq => (oq q (by omega)).trans (hI.2.1 q hq), fun q hq => ?_⟩
    · rw [ev_cell_101]
      show (H.setIfInBounds (k.1 + j1) _)[k.1 + j1]? = some (vp_cell _ _)
      simp [Array.getElem?_setIfInBounds, hl]
    · rcases List.mem_append.mp hq with h | h
      · exact hI.2.2 q h
      · exact hL q h
  obtain ⟨t, a1, b1⟩ := kk _ _ (hI1 _ (fun q hq => by
    obtain ⟨z, -, hz⟩ := List.mem_map.mp hq
    rw [← hz]
    exact Nat.le_add_right _ _)) _ hheap X'
  exact ⟨t, step t a1, b1⟩
theorem ev_cpy {p : Program} {l : Launch} {e : Env} {R : Room} {s : State} {m : MethodId} {args : Array Value} {below : List Frame} {meth : Method} {c : Code} {H : Heap} {locs : List Loc} {cells slots : Nat} {Q : State → Prop} {pc : Nat} {ls : Array Slot} {k : eK} {fg : eG} {y : Nat} {μ : eM} {rest : List Value} (X : ev_X k fg y p s m args meth c) (hI : ev_I k μ s.heap H locs) (hls : ls.size = dt_mx y) {idx : Nat} (hlink : (Cond.methodLink (dt_nm y).cls idx arraycopyName).before args s = true) (hnat : (Cond.native arraycopyName).before args s = true) (hstat : (Cond.static arraycopyName).before args s = true) (hini : (Cond.initialized "java/lang/System").before args s = true) {n dp sp : Int} {r q kd n0 n1 : Nat} (h : ev_cpq μ n dp sp r q kd n0 n1) (hframes : 1 ≤ R.frames) (hlocals : (rest.map fun v => v.category).sum + 30 ≤ R.locals) (hdg : decode (dt_by y) pc = .ok (.invokestatic idx, 3))
    (kk : ∀ (H1 : Heap) (locs1 : List Loc), ev_I k (ev_ur μ.1 r (ev_cp (μ.1 q) (μ.1 r) (ev_w n).toNat), μ.2) s.heap H1 locs1 → W p l e R s m args below meth c H1 locs1 cells slots Q (F0 m (pc + 3) ls rest)) : W p l e R s m args below meth c H locs cells slots Q (F0 m pc ls (.int (Int32.ofInt n) :: .int (Int32.ofInt dp) :: ev_r (ev_ad k) r :: .int (Int32.ofInt sp) :: ev_r (ev_ad k) q :: rest)) := by
  obtain ⟨hq, hr, hkd, hsp, hdp, hn0, hn1, hn2⟩ := h
  obtain ⟨j0, rfl, hj0⟩ := ev_kn_ok hq
  obtain ⟨j1, rfl, hj1⟩ := ev_kn_ok hr
  rw [ev_r_own, ev_r_own, (ev_eq0 sp).mpr hsp, (ev_eq0 dp).mpr hdp]
  have hw : nativeFrameWords "java/lang/System" "arraycopy" 5 + 11 ≤ 30 := by decide
  rcases hkd with rfl | rfl
  · exact ev_cpy100 X hI hls hlink hnat hstat hini hj0 hj1 hn0 hn1 hn2 hframes (by omega) hdg kk
  · exact ev_cpy101 X hI hls hlink hnat hstat hini hj0 hj1 hn0 hn1 hn2 hframes (by omega) hdg kk
theorem ev_cqy100 {p : Program} {l : Launch} {e : Env} {R : Room} {s : State} {m : MethodId} {args : Array Value} {below : List Frame} {meth : Method} {c : Code} {H : Heap} {locs : List Loc} {cells slots : Nat} {Q : State → Prop} {pc : Nat} {ls : Array Slot} {k : eK} {fg : eG} {y : Nat} {μ : eM} {rest : List Value} (X : ev_X k fg y p s m args meth c) (hI : ev_I k μ s.heap H locs) (hls : ls.size = dt_mx y) {idx : Nat} (hlink : (Cond.methodLink (dt_nm y).cls idx arraycopyName).before args s = true) (hnat : (Cond.native arraycopyName).before args s = true) (hstat : (Cond.static arraycopyName).before args s = true) (hini : (Cond.initialized "java/lang/System").before args s = true) {n sp dp : Int} {j0 j1 n0 n1 : Nat} (hj0 : μ.2.1[j0]? = some (100, n0)) (hj1 : μ.2.1[j1]? = some (100, n1)) (hs0 : 0 ≤ ev_w sp) (hd0 : 0 ≤ ev_w dp) (hn0 : 0 ≤ ev_w n) (hn1 : ev_w sp + ev_w n ≤ (n0 : Int)) (hn2 : ev_w dp + ev_w n ≤ (n1 : Int)) (hframes : 1 ≤ R.frames) (hlocals : (rest.map fun v => v.category).sum + (nativeFrameWords "java/lang/System" "arraycopy" 5 + 11) ≤ R.locals) (hdg : decode (dt_by y) pc = .ok (.invokestatic idx, 3))
    (kk : ∀ (H1 : Heap) (locs1 : List Loc), ev_I k (ev_ur μ.1 (j1 + 64) (ev_cq (μ.1 (j0 + 64)) (μ.1 (j1 + 64)) (ev_w sp).toNat (ev_w dp).toNat (ev_w n).toNat), μ.2) s.heap H1 locs1 → W p l e R s m args below meth c H1 locs1 cells slots Q (F0 m (pc + 3) ls rest)) : W p l e R s m args below meth c H locs cells slots Q (F0 m pc ls (.int (Int32.ofInt n) :: .int (Int32.ofInt dp) :: .ref (k.1 + j1) :: .int (Int32.ofInt sp) :: .ref (k.1 + j0) :: rest)) := by
  obtain ⟨hx, hb, hml, hown, hts, hU, -⟩ := X
  have hnn : ¬ Int32.ofInt n < 0 := fun z => by have := (ev_lt0 n).mp z; omega
  have hnc : (Int32.ofInt n).toNatClampNeg = (ev_w n).toNat := ev_nat n
  have hni : (Int32.ofInt n).toInt = ev_w n := ev_w_ok n
  have hsn : ¬ Int32.ofInt sp < 0 := fun z => by have := (ev_lt0 sp).mp z; omega
  have hdn : ¬ Int32.ofInt dp < 0 := fun z => by have := (ev_lt0 dp).mp z; omega
  have hsc : (Int32.ofInt sp).toNatClampNeg = (ev_w sp).toNat := ev_nat sp
  have hdc : (Int32.ofInt dp).toNatClampNeg = (ev_w dp).toNat := ev_nat dp
  have hsi : (Int32.ofInt sp).toInt = ev_w sp := ev_w_ok sp
  have hdi : (Int32.ofInt dp).toInt = ev_w dp := ev_w_ok dp
  have hprim : refKind FieldType.int = false := rfl
  have hP0 := hI.1.2 j0 100 n0 hj0
  have hP1 := hI.1.2 j1 100 n1 hj1
  rw [ev_cell_100] at hP0 hP1
  have hc0 : H[k.1 + j0]? = some (vp_cell (k.2.2.2.1 0) (n0, .inl (fun i => Int32.ofInt (μ.1 (j0 + 64) i)))) := hP0
  have hc1 : H[k.1 + j1]? = some (vp_cell (k.2.2.2.1 0) (n1, .inl (fun i => Int32.ofInt (μ.1 (j1 + 64) i)))) := hP1
  obtain ⟨-, k0, hk0, cm0, hkk0⟩ := (hU.1.2 0 (k.2.2.2.1 0, .int) rfl).1 n0 (fun i => .int (Int32.ofInt (μ.1 (j0 + 64) i)))
  obtain ⟨-, k1, hk1, cm1, hkk1⟩ := (hU.1.2 0 (k.2.2.2.1 0, .int) rfl).1 n1 (fun i => .int (Int32.ofInt (μ.1 (j1 + 64) i)))
  have h4 : (Int32.ofInt sp).toNatClampNeg + (Int32.ofInt n).toNatClampNeg ≤ n0 := by rw [hsc, hnc]; omega
  intro T hT X9
  obtain ⟨vm', X', step⟩ := X9.arraycopy hx hown hlink hnat hstat hini (src := k.1 + j0) (dst := k.1 + j1) (cs := vp_cell (k.2.2.2.1 0) (n0, .inl (fun i => Int32.ofInt (μ.1 (j0 + 64) i)))) (cd := vp_cell (k.2.2.2.1 0) (n1, .inl (fun i => Int32.ofInt (μ.1 (j1 + 64) i)))) (srcPos := Int32.ofInt sp) (destPos := Int32.ofInt dp) (n := Int32.ofInt n) (by rw [hT]; exact hc0) (by rw [hT]; exact hc1)
    (fun _ h => by cases h) (fun _ h => by cases h) (fun h => by cases h) (fun h => by cases h) hk0 hk1 hkk0 hkk1 (by simp [hprim]) hsn hdn hnn
    (by rw [hsi, hni]; show ¬ _ > ((arrV (k.2.2.2.1 0) n0 (fun i => .int (Int32.ofInt (μ.1 (j0 + 64) i)))).slots.size : Int); rw [arrV_size]; omega)
    (by rw [hdi, hni]; show ¬ _ > ((arrV (k.2.2.2.1 0) n1 (fun i => .int (Int32.ofInt (μ.1 (j1 + 64) i)))).slots.size : Int); rw [arrV_size]; omega)
    (fun vm₁ _ i hi => by
      have e : (vp_cell (k.2.2.2.1 0) (n0, .inl (fun i => Int32.ofInt (μ.1 (j0 + 64) i)))).slots.getD ((Int32.ofInt sp).toNatClampNeg + i) .null = .int (Int32.ofInt (μ.1 (j0 + 64) ((Int32.ofInt sp).toNatClampNeg + i))) := by
        show (arrV (k.2.2.2.1 0) n0 (fun i => .int (Int32.ofInt (μ.1 (j0 + 64) i)))).slots.getD _ _ = _
        rw [Array.getD_eq_getD_getElem?, arrV_read _ _ (by omega)]
        rfl
      refine ⟨?_, ?_⟩
      · rw [e]
        rfl
      · rw [e]
        exact trivial)
    (g := F0 m pc ls (.int (Int32.ofInt n) :: .int (Int32.ofInt dp) :: .ref (k.1 + j1) :: .int (Int32.ofInt sp) :: .ref (k.1 + j0) :: rest)) rfl (by rw [hml]; exact hls) (rest := rest) rfl (by rw [hb]; exact hdg) hframes (by show 2 * 0 + _ + _ ≤ _; omega)
  have e1 : copied (vp_cell (k.2.2.2.1 0) (n0, .inl (fun i => Int32.ofInt (μ.1 (j0 + 64) i)))) (vp_cell (k.2.2.2.1 0) (n1, .inl (fun i => Int32.ofInt (μ.1 (j1 + 64) i)))) (Int32.ofInt sp) (Int32.ofInt dp) (Int32.ofInt n) = vp_cell (k.2.2.2.1 0) (n1, .inl (va_cpy (fun i => Int32.ofInt (μ.1 (j0 + 64) i)) (fun i => Int32.ofInt (μ.1 (j1 + 64) i)) (Int32.ofInt sp).toNatClampNeg (Int32.ofInt dp).toNatClampNeg (Int32.ofInt n).toNatClampNeg)) := va_copied (fun z => .int z) _ _ (fun i => Int32.ofInt (μ.1 (j0 + 64) i)) (fun i => Int32.ofInt (μ.1 (j1 + 64) i)) h4
  have e2 : va_cpy (fun i => Int32.ofInt (μ.1 (j0 + 64) i)) (fun i => Int32.ofInt (μ.1 (j1 + 64) i)) (Int32.ofInt sp).toNatClampNeg (Int32.ofInt dp).toNatClampNeg (Int32.ofInt n).toNatClampNeg = fun i => Int32.ofInt (ev_cq (μ.1 (j0 + 64)) (μ.1 (j1 + 64)) (ev_w sp).toNat (ev_w dp).toNat (ev_w n).toNat i) := by
    funext i
    rw [hsc, hdc, hnc]
    unfold va_cpy ev_cq
    by_cases hi : (ev_w dp).toNat ≤ i ∧ i < (ev_w dp).toNat + (ev_w n).toNat
    · rw [if_pos hi, if_pos hi]
    · rw [if_neg hi, if_neg hi]
  rw [e1, e2] at X' step
  have hl : k.1 + j1 < H.size := (Array.getElem?_eq_some_iff.mp hc1).1
  have hheap : ((T.setVm vm').setCell (k.1 + j1) (vp_cell (k.2.2.2.1 0) (n1, .inl (fun i => Int32.ofInt (ev_cq (μ.1 (j0 + 64)) (μ.1 (j1 + 64)) (ev_w sp).toNat (ev_w dp).toNat (ev_w n).toNat i))))).heap = H.setIfInBounds (k.1 + j1) (vp_cell (k.2.2.2.1 0) (n1, .inl (fun i => Int32.ofInt (ev_cq (μ.1 (j0 + 64)) (μ.1 (j1 + 64)) (ev_w sp).toNat (ev_w dp).toNat (ev_w n).toNat i)))) := by rw [← hT]; rfl
  have oq : ∀ q : Nat, q ≠ k.1 + j1 → (H.setIfInBounds (k.1 + j1) (vp_cell (k.2.2.2.1 0) (n1, .inl (fun i => Int32.ofInt (ev_cq (μ.1 (j0 + 64)) (μ.1 (j1 + 64)) (ev_w sp).toNat (ev_w dp).toNat (ev_w n).toNat i)))))[q]? = H[q]? := fun q hq => by simp [Array.getElem?_setIfInBounds, Ne.symm hq]
  have hI1 : ∀ L : List Loc, (∀ q ∈ L, k.1 ≤ q.base) → ev_I k (ev_ur μ.1 (j1 + 64) (ev_cq (μ.1 (j0 + 64)) (μ.1 (j1 + 64)) (ev_w sp).toNat (ev_w dp).toNat (ev_w n).toNat), μ.2) s.heap (H.setIfInBounds (k.1 + j1) (vp_cell (k.2.2.2.1 0) (n1, .inl (fun i => Int32.ofInt (ev_cq (μ.1 (j0 + 64)) (μ.1 (j1 + 64)) (ev_w sp).toNat (ev_w dp).toNat (ev_w n).toNat i))))) (locs ++ L) := by
    intro L hL
    refine ⟨hI.1.set hj1 (by simp) oq ?_, fun q hq => (oq q (by omega)).trans (hI.2.1 q hq), fun q hq => ?_⟩
    · rw [ev_cell_100]
      show (H.setIfInBounds (k.1 + j1) _)[k.1 + j1]? = some (vp_cell _ _)
      simp [Array.getElem?_setIfInBounds, hl]
    · rcases List.mem_append.mp hq with h | h
      · exact hI.2.2 q h
      · exact hL q h
  obtain ⟨t, a1, b1⟩ := kk _ _ (hI1 _ (fun q hq => by
    obtain ⟨z, -, hz⟩ := List.mem_map.mp hq
    rw [← hz]
    exact Nat.le_add_right _ _)) _ hheap X'
  exact ⟨t, step t a1, b1⟩
theorem ev_cqy101 {p : Program} {l : Launch} {e : Env} {R : Room} {s : State} {m : MethodId} {args : Array Value} {below : List Frame} {meth : Method} {c : Code} {H : Heap} {locs : List Loc} {cells slots : Nat} {Q : State → Prop} {pc : Nat} {ls : Array Slot} {k : eK} {fg : eG} {y : Nat} {μ : eM} {rest : List Value} (X : ev_X k fg y p s m args meth c) (hI : ev_I k μ s.heap H locs) (hls : ls.size = dt_mx y) {idx : Nat} (hlink : (Cond.methodLink (dt_nm y).cls idx arraycopyName).before args s = true) (hnat : (Cond.native arraycopyName).before args s = true) (hstat : (Cond.static arraycopyName).before args s = true) (hini : (Cond.initialized "java/lang/System").before args s = true) {n sp dp : Int} {j0 j1 n0 n1 : Nat} (hj0 : μ.2.1[j0]? = some (101, n0)) (hj1 : μ.2.1[j1]? = some (101, n1)) (hs0 : 0 ≤ ev_w sp) (hd0 : 0 ≤ ev_w dp) (hn0 : 0 ≤ ev_w n) (hn1 : ev_w sp + ev_w n ≤ (n0 : Int)) (hn2 : ev_w dp + ev_w n ≤ (n1 : Int)) (hframes : 1 ≤ R.frames) (hlocals : (rest.map fun v => v.category).sum + (nativeFrameWords "java/lang/System" "arraycopy" 5 + 11) ≤ R.locals) (hdg : decode (dt_by y) pc = .ok (.invokestatic idx, 3))
    (kk : ∀ (H1 : Heap) (locs1 : List Loc), ev_I k (ev_ur μ.1 (j1 + 64) (ev_cq (μ.1 (j0 + 64)) (μ.1 (j1 + 64)) (ev_w sp).toNat (ev_w dp).toNat (ev_w n).toNat), μ.2) s.heap H1 locs1 → W p l e R s m args below meth c H1 locs1 cells slots Q (F0 m (pc + 3) ls rest)) : W p l e R s m args below meth c H locs cells slots Q (F0 m pc ls (.int (Int32.ofInt n) :: .int (Int32.ofInt dp) :: .ref (k.1 + j1) :: .int (Int32.ofInt sp) :: .ref (k.1 + j0) :: rest)) := by
  obtain ⟨hx, hb, hml, hown, hts, hU, -⟩ := X
  have hnn : ¬ Int32.ofInt n < 0 := fun z => by have := (ev_lt0 n).mp z; omega
  have hnc : (Int32.ofInt n).toNatClampNeg = (ev_w n).toNat := ev_nat n
  have hni : (Int32.ofInt n).toInt = ev_w n := ev_w_ok n
  have hsn : ¬ Int32.ofInt sp < 0 := fun z => by have := (ev_lt0 sp).mp z; omega
  have hdn : ¬ Int32.ofInt dp < 0 := fun z => by have := (ev_lt0 dp).mp z; omega
  have hsc : (Int32.ofInt sp).toNatClampNeg = (ev_w sp).toNat := ev_nat sp
  have hdc : (Int32.ofInt dp).toNatClampNeg = (ev_w dp).toNat := ev_nat dp
  have hsi : (Int32.ofInt sp).toInt = ev_w sp := ev_w_ok sp
  have hdi : (Int32.ofInt dp).toInt = ev_w dp := ev_w_ok dp
  have hprim : refKind FieldType.long = false := rfl
  have hP0 := hI.1.2 j0 101 n0 hj0
  have hP1 := hI.1.2 j1 101 n1 hj1
  rw [ev_cell_101] at hP0 hP1
  have hc0 : H[k.1 + j0]? = some (vp_cell (k.2.2.2.1 1) (n0, .inr (.inl (fun i => Int64.ofInt (μ.1 (j0 + 64) i))))) := hP0
  have hc1 : H[k.1 + j1]? = some (vp_cell (k.2.2.2.1 1) (n1, .inr (.inl (fun i => Int64.ofInt (μ.1 (j1 + 64) i))))) := hP1
  obtain ⟨-, k0, hk0, cm0, hkk0⟩ := (hU.1.2 1 (k.2.2.2.1 1, .long) rfl).1 n0 (fun i => .long (Int64.ofInt (μ.1 (j0 + 64) i)))
  obtain ⟨-, k1, hk1, cm1, hkk1⟩ := (hU.1.2 1 (k.2.2.2.1 1, .long) rfl).1 n1 (fun i => .long (Int64.ofInt (μ.1 (j1 + 64) i)))
  have h4 : (Int32.ofInt sp).toNatClampNeg + (Int32.ofInt n).toNatClampNeg ≤ n0 := by rw [hsc, hnc]; omega
  intro T hT X9
  obtain ⟨vm', X', step⟩ := X9.arraycopy hx hown hlink hnat hstat hini (src := k.1 + j0) (dst := k.1 + j1) (cs := vp_cell (k.2.2.2.1 1) (n0, .inr (.inl (fun i => Int64.ofInt (μ.1 (j0 + 64) i))))) (cd := vp_cell (k.2.2.2.1 1) (n1, .inr (.inl (fun i => Int64.ofInt (μ.1 (j1 + 64) i))))) (srcPos := Int32.ofInt sp) (destPos := Int32.ofInt dp) (n := Int32.ofInt n) (by rw [hT]; exact hc0) (by rw [hT]; exact hc1)
    (fun _ h => by cases h) (fun _ h => by cases h) (fun h => by cases h) (fun h => by cases h) hk0 hk1 hkk0 hkk1 (by simp [hprim]) hsn hdn hnn
    (by rw [hsi, hni]; show ¬ _ > ((arrV (k.2.2.2.1 1) n0 (fun i => .long (Int64.ofInt (μ.1 (j0 + 64) i)))).slots.size : Int); rw [arrV_size]; omega)
    (by rw [hdi, hni]; show ¬ _ > ((arrV (k.2.2.2.1 1) n1 (fun i => .long (Int64.ofInt (μ.1 (j1 + 64) i)))).slots.size : Int); rw [arrV_size]; omega)
    (fun vm₁ _ i hi => by
      have e : (vp_cell (k.2.2.2.1 1) (n0, .inr (.inl (fun i => Int64.ofInt (μ.1 (j0 + 64) i))))).slots.getD ((Int32.ofInt sp).toNatClampNeg + i) .null = .long (Int64.ofInt (μ.1 (j0 + 64) ((Int32.ofInt sp).toNatClampNeg + i))) := by
        show (arrV (k.2.2.2.1 1) n0 (fun i => .long (Int64.ofInt (μ.1 (j0 + 64) i)))).slots.getD _ _ = _
        rw [Array.getD_eq_getD_getElem?, arrV_read _ _ (by omega)]
        rfl
      refine ⟨?_, ?_⟩
      · rw [e]
        rfl
      · rw [e]
        exact trivial)
    (g := F0 m pc ls (.int (Int32.ofInt n) :: .int (Int32.ofInt dp) :: .ref (k.1 + j1) :: .int (Int32.ofInt sp) :: .ref (k.1 + j0) :: rest)) rfl (by rw [hml]; exact hls) (rest := rest) rfl (by rw [hb]; exact hdg) hframes (by show 2 * 0 + _ + _ ≤ _; omega)
  have e1 : copied (vp_cell (k.2.2.2.1 1) (n0, .inr (.inl (fun i => Int64.ofInt (μ.1 (j0 + 64) i))))) (vp_cell (k.2.2.2.1 1) (n1, .inr (.inl (fun i => Int64.ofInt (μ.1 (j1 + 64) i))))) (Int32.ofInt sp) (Int32.ofInt dp) (Int32.ofInt n) = vp_cell (k.2.2.2.1 1) (n1, .inr (.inl (va_cpy (fun i => Int64.ofInt (μ.1 (j0 + 64) i)) (fun i => Int64.ofInt (μ.1 (j1 + 64) i)) (Int32.ofInt sp).toNatClampNeg (Int32.ofInt dp).toNatClampNeg (Int32.ofInt n).toNatClampNeg))) := va_copied (fun z => .long z) _ _ (fun i => Int64.ofInt (μ.1 (j0 + 64) i)) (fun i => Int64.ofInt (μ.1 (j1 + 64) i)) h4
  have e2 : va_cpy (fun i => Int64.ofInt (μ.1 (j0 + 64) i)) (fun i => Int64.ofInt (μ.1 (j1 + 64) i)) (Int32.ofInt sp).toNatClampNeg (Int32.ofInt dp).toNatClampNeg (Int32.ofInt n).toNatClampNeg = fun i => Int64.ofInt (ev_cq (μ.1 (j0 + 64)) (μ.1 (j1 + 64)) (ev_w sp).toNat (ev_w dp).toNat (ev_w n).toNat i) := by
    funext i
    rw [hsc, hdc, hnc]
    unfold va_cpy ev_cq
    by_cases hi : (ev_w dp).toNat ≤ i ∧ i < (ev_w dp).toNat + (ev_w n).toNat
    · rw [if_pos hi, if_pos hi]
    · rw [if_neg hi, if_neg hi]
  rw [e1, e2] at X' step
  have hl : k.1 + j1 < H.size := (Array.getElem?_eq_some_iff.mp hc1).1
  have hheap : ((T.setVm vm').setCell (k.1 + j1) (vp_cell (k.2.2.2.1 1) (n1, .inr (.inl (fun i => Int64.ofInt (ev_cq (μ.1 (j0 + 64)) (μ.1 (j1 + 64)) (ev_w sp).toNat (ev_w dp).toNat (ev_w n).toNat i)))))).heap = H.setIfInBounds (k.1 + j1) (vp_cell (k.2.2.2.1 1) (n1, .inr (.inl (fun i => Int64.ofInt (ev_cq (μ.1 (j0 + 64)) (μ.1 (j1 + 64)) (ev_w sp).toNat (ev_w dp).toNat (ev_w n).toNat i))))) := by rw [← hT]; rfl
  have oq : ∀ q : Nat, q ≠ k.1 + j1 → (H.setIfInBounds (k.1 + j1) (vp_cell (k.2.2.2.1 1) (n1, .inr (.inl (fun i => Int64.ofInt (ev_cq (μ.1 (j0 + 64)) (μ.1 (j1 + 64)) (ev_w sp).toNat (ev_w dp).toNat (ev_w n).toNat i))))))[q]? = H[q]? := fun q hq => by simp [Array.getElem?_setIfInBounds, Ne.symm hq]
  have hI1 : ∀ L : List Loc, (∀ q ∈ L, k.1 ≤ q.base) → ev_I k (ev_ur μ.1 (j1 + 64) (ev_cq (μ.1 (j0 + 64)) (μ.1 (j1 + 64)) (ev_w sp).toNat (ev_w dp).toNat (ev_w n).toNat), μ.2) s.heap (H.setIfInBounds (k.1 + j1) (vp_cell (k.2.2.2.1 1) (n1, .inr (.inl (fun i => Int64.ofInt (ev_cq (μ.1 (j0 + 64)) (μ.1 (j1 + 64)) (ev_w sp).toNat (ev_w dp).toNat (ev_w n).toNat i)))))) (locs ++ L) := by
    intro L hL
    refine ⟨hI.1.set hj1 (by simp) oq ?_, fun q hq => (oq q (by omega)).trans (hI.2.1 q hq), fun q hq => ?_⟩
    · rw [ev_cell_101]
      show (H.setIfInBounds (k.1 + j1) _)[k.1 + j1]? = some (vp_cell _ _)
      simp [Array.getElem?_setIfInBounds, hl]
    · rcases List.mem_append.mp hq with h | h
      · exact hI.2.2 q h
      · exact hL q h
  obtain ⟨t, a1, b1⟩ := kk _ _ (hI1 _ (fun q hq => by
    obtain ⟨z, -, hz⟩ := List.mem_map.mp hq
    rw [← hz]
    exact Nat.le_add_right _ _)) _ hheap X'
  exact ⟨t, step t a1, b1⟩
theorem ev_cqy {p : Program} {l : Launch} {e : Env} {R : Room} {s : State} {m : MethodId} {args : Array Value} {below : List Frame} {meth : Method} {c : Code} {H : Heap} {locs : List Loc} {cells slots : Nat} {Q : State → Prop} {pc : Nat} {ls : Array Slot} {k : eK} {fg : eG} {y : Nat} {μ : eM} {rest : List Value} (X : ev_X k fg y p s m args meth c) (hI : ev_I k μ s.heap H locs) (hls : ls.size = dt_mx y) {idx : Nat} (hlink : (Cond.methodLink (dt_nm y).cls idx arraycopyName).before args s = true) (hnat : (Cond.native arraycopyName).before args s = true) (hstat : (Cond.static arraycopyName).before args s = true) (hini : (Cond.initialized "java/lang/System").before args s = true) {n dp sp : Int} {r q kd n0 n1 : Nat} (h : ev_cpr μ n dp sp r q kd n0 n1) (hframes : 1 ≤ R.frames) (hlocals : (rest.map fun v => v.category).sum + 30 ≤ R.locals) (hdg : decode (dt_by y) pc = .ok (.invokestatic idx, 3))
    (kk : ∀ (H1 : Heap) (locs1 : List Loc), ev_I k (ev_ur μ.1 r (ev_cq (μ.1 q) (μ.1 r) (ev_w sp).toNat (ev_w dp).toNat (ev_w n).toNat), μ.2) s.heap H1 locs1 → W p l e R s m args below meth c H1 locs1 cells slots Q (F0 m (pc + 3) ls rest)) : W p l e R s m args below meth c H locs cells slots Q (F0 m pc ls (.int (Int32.ofInt n) :: .int (Int32.ofInt dp) :: ev_r (ev_ad k) r :: .int (Int32.ofInt sp) :: ev_r (ev_ad k) q :: rest)) := by
  obtain ⟨hq, hr, hkd, hs0, hd0, hn0, hn1, hn2⟩ := h
  obtain ⟨j0, rfl, hj0⟩ := ev_kn_ok hq
  obtain ⟨j1, rfl, hj1⟩ := ev_kn_ok hr
  rw [ev_r_own, ev_r_own]
  have hw : nativeFrameWords "java/lang/System" "arraycopy" 5 + 11 ≤ 30 := by decide
  rcases hkd with rfl | rfl
  · exact ev_cqy100 X hI hls hlink hnat hstat hini hj0 hj1 hs0 hd0 hn0 hn1 hn2 hframes (by omega) hdg kk
  · exact ev_cqy101 X hI hls hlink hnat hstat hini hj0 hj1 hs0 hd0 hn0 hn1 hn2 hframes (by omega) hdg kk
/-- the end of a method by its contract -/
theorem ev_leave {fg : eG} {l : Launch} {k : eK} {y : Nat} {p : Program} {e : Env} {R : Room} {s : State} {m : MethodId} {args : Array Value} {below : List Frame} {meth : Method} {c : Code} {H : Heap} {locs : List Loc} {cells slots : Nat} {μ : eM} {r : Option eV} {pc : Nat} {ls : Array Slot} {i : Instr} {st : List eV}
    (X : ev_X k fg y p s m args meth c) (hdg : decode (dt_by y) pc = .ok (i, 1)) (h : ev_rt y i st = some r) (hI : ev_I k μ s.heap H locs) (ha : (dt_pl y).2.1 = 5 → ∃ rt : FieldType, dt_rt y = some rt ∧ ((∃ n, rt = .object n) ∨ ∃ t, rt = .array t)) :
    W p l e R s m args below meth c H locs cells slots (MQ below (ev_Q k r μ) args s cells slots (ev_B k)) (F0 m pc ls (st.map (ev_c (ev_ad k)))) := by
  obtain ⟨hx, hb, hml, hown, hts, hU, hr, hlocks, -⟩ := X
  have hq : ∀ t : State, t.heap = H → s.WarmedH t.vm → ev_Q k r μ args s (.returned (r.map (ev_c (ev_ad k)))) t := fun t ht _ => ⟨rfl, by rw [ht]; exact hI.1, fun q hq => by rw [ht]; exact hI.2.1 q hq⟩
  unfold ev_rt at h
  split at h
  · split at h
    · split at h
      · rename_i h0
        cases h
        exact W.vret hx hb (hr.trans (by unfold dt_rt; rw [h0]; rfl)) hq hI.2.2 hdg hlocks
      · cases h
    · cases h
  · split at h
    · split at h
      · rename_i h0
        cases h
        rcases h0 with h0 | h0
        · exact W.iret hx hb (hr.trans (by unfold dt_rt; rw [h0]; rfl)) hq hI.2.2 hdg hlocks
        · exact W.zret hx hb (hr.trans (by unfold dt_rt; rw [h0.1]; rfl)) (ev_nbool h0.2) hq hI.2.2 hdg hlocks
      · cases h
    · cases h
  · split at h
    · split at h
      · rename_i h0
        cases h
        exact W.lret hx hb (hr.trans (by unfold dt_rt; rw [h0]; rfl)) hq hI.2.2 hdg hlocks
      · cases h
    · cases h
  · split at h
    · split at h
      · rename_i h0
        cases h
        exact W.dret hx hb (hr.trans (by unfold dt_rt; rw [h0]; rfl)) hq hI.2.2 hdg hlocks
      · cases h
    · cases h
  · split at h
    · split at h
      · rename_i h0
        cases h
        obtain ⟨rt, e1, e2⟩ := ha h0
        exact W.aret hx hb (hr.trans e1) e2 (ev_r_ref _ _) hq hI.2.2 hdg hlocks
      · cases h
    · cases h
  · cases h
/-- a method's contract out of a run of the small machine -/
theorem ev_met {fg : eG} {l : Launch} {k : eK} {n : Nat} (ih : ev_G fg l k n) {d b : Nat} {as : List eV} {μ μ' : eM} {r : Option eV} (h : ev fg n d b 0 (ev_en (dt_mx b) as) [] μ = some (r, μ')) (hb : b < dt_NM) (hmk : dt_mck b = true) (hsl : (ev_sl1 as).length ≤ dt_mx b) (ha : (dt_pl b).2.1 = 5 → ∃ rt : FieldType, dt_rt b = some rt ∧ ((∃ n, rt = .object n) ∨ ∃ t, rt = .array t)) :
    Met l (dt_nm b) (Cond.code (dt_nm b) (dt_by b) (dt_mx b) (dt_rt b) :: dt_G) { frames := d, cells := μ'.2.1.length - μ.2.1.length, slots := μ'.2.2 - μ.2.2, locals := 80 * d } (va_Pc (as.map (ev_c (ev_ad k))) (fun U => ev_U k fg U U.heap ∧ ev_Wd k μ U.heap)) (ev_Q k r μ') (μ'.2.1.length - μ.2.1.length) (μ'.2.2 - μ.2.2) (ev_B k) := by
  have hpn : plainName (dt_nm b).cls = true := by
    unfold dt_mck at hmk
    simp only [Bool.and_eq_true, decide_eq_true_eq] at hmk
    exact hmk.1.1.1.2
  refine Met.ofW (cc := dt_by b) (maxL := dt_mx b) (ret := dt_rt b) hpn rfl ?_
  intro p e s m args below meth c s₁ B hml hv
  obtain ⟨rfl, hU, hW⟩ := hv
  have hts := atoms_spec (ws := Cond.code (dt_nm b) (dt_by b) (dt_mx b) (dt_rt b) :: dt_G) B.pre
  have X : ev_X k fg b p s m (as.map (ev_c (ev_ad k))).toArray meth c := ⟨B.exec, B.bytes, hml, findClass_of_methodNamed B.named, fun w hw => hts w (List.mem_cons_of_mem _ hw), hU, B.returns, B.notSynchronized, fun q => (name_of_methodNamed B.named B.method).1.trans q⟩
  rw [lg_entry_eq]
  exact ih d b 0 _ [] μ r μ' h hb p e _ s m _ below meth c _ s.heap [] 0 0 _ μ.2.1.length μ.2.2 X ⟨hW, fun q _ => rfl, fun q hq => by cases hq⟩ (ev_en_ok (ev_ad k) as hsl) (Nat.le_refl _) (Nat.le_refl _) (Nat.sub_self _).symm (Nat.sub_self _).symm (Nat.le_refl _) (Nat.le_refl _) (Nat.le_refl _) (Nat.le_refl _)
    (fun H1 locs1 pc1 ls1 i st1 hdg hrt hI => ev_leave X hdg hrt hI ha)

theorem ks_mem : ∀ r, r < 64 → 0 < (dt_ks r).length → dt_kc.any (fun q => decide (q.2.2.2 = r)) = true := by decide +kernel
theorem ks_lw : ∀ r, r < 64 → Int32.ofNat (dt_ks r).length = Int32.ofInt ((dt_ks r).length : Int) := by decide +kernel
def ks_nb (x : Int32) : Bool := match narrow .char (.int x) with
  | .int y => decide (y = x)
  | _ => false
theorem ks_nb_ok {x : Int32} (h : ks_nb x = true) : narrow .char (.int x) = .int x := by
  unfold ks_nb at h
  split at h
  · rename_i y hy
    rw [hy, of_decide_eq_true h]
  · cases h
theorem ks_chs : ∀ r, r < 64 → ∀ j, j < (dt_ks r).length → (decide (((ks_f r j &&& 255).toUInt32 % 65536).toInt32 = Int32.ofInt ((dt_ks r).getD j 0)) && ks_nb (Int32.ofInt ((dt_ks r).getD j 0))) = true := by decide +kernel
set_option maxHeartbeats 4000000 in
theorem ev_u_ok {p : Program} {l : Launch} {e : Env} {R : Room} {s : State} {m : MethodId} {args : Array Value} {below : List Frame} {meth : Method} {c : Code} {H : Heap} {locs : List Loc} {cells slots : Nat} {Q : State → Prop} {pc : Nat} {ls : Array Slot} {k : eK} {fg : eG} {y d : Nat} {μ : eM} (X : ev_X k fg y p s m args meth c) (hI : ev_I k μ s.heap H locs) (hls : ls.size = dt_mx y) {i : Instr} {n a b t d9 : Nat} {x : Int} (hlk : dt_lk y i n a b t d9 x = true) (hck : dt_cck y i a b t d9 = true) (hdg : decode (dt_by y) pc = .ok (i, n)) {st st' : List eV} (h : ev_u d i a b st = some st') (hfr : d ≤ R.frames) (hlo : 80 * d ≤ R.locals) (hcR : cells ≤ R.cells) (hsR : slots ≤ R.slots)
    (kk : W p l e R s m args below meth c H locs cells slots Q (F0 m (pc + n) ls (st'.map (ev_c (ev_ad k))))) : W p l e R s m args below meth c H locs cells slots Q (F0 m pc ls (st.map (ev_c (ev_ad k)))) := by
  obtain ⟨hx, hb, hml, hown, hts, hU, hret, hlk9, hnm9⟩ := X
  have hks := hU.2.2.2.2
  have hpc : ∀ U : State, U.heap = H → s.WarmedH U.vm → ev_U k fg U U.heap := fun U hU' hW => by
    rw [hU']
    exact (hU.kept hI.2.1).warm hW
  have hldc : ∀ idx : Nat, dt_kc.any (fun q => decide (q.1 = (dt_nm y).cls) && decide (q.2.1 = idx) && decide (q.2.2.2 = b)) = true → ∃ tx : String, vk_R (dt_nm y).cls idx tx (k.2.2.2.2 b) s := by
    intro idx hq
    obtain ⟨q, hq1, hq2⟩ := List.any_eq_true.mp hq
    simp only [Bool.and_eq_true, decide_eq_true_eq] at hq2
    obtain ⟨⟨e1, e2⟩, e3⟩ := hq2
    have h5 := (hks.2 q hq1).1
    rw [e1, e2, e3] at h5
    exact ⟨_, h5⟩
  have hold : ∀ r : Nat, 0 < r → r < 64 → ev_c (ev_ad k) (eR r) = Value.ref (k.2.2.2.2 r) := fun r h0 h1 => ev_r_old h0 h1
  cases i
  case ldc idx =>
    simp only [ev_u] at h
    split at h
    · rename_i h0
      cases h
      obtain ⟨ha, hb64, hb0⟩ := h0
      simp only [dt_lk, Bool.and_eq_true, Bool.or_eq_true, decide_eq_true_eq] at hlk
      obtain ⟨rfl, -, hq⟩ := hlk
      obtain ⟨tx, h5⟩ := hldc idx (hq.resolve_left (fun q => q ha))
      rw [List.map_cons, hold b hb0 hb64] at kk
      exact va_ldcS hx hb hown h5 hdg kk
    · cases h
  case ldc_w idx =>
    simp only [ev_u] at h
    split at h
    · rename_i h0
      cases h
      obtain ⟨ha, hb64, hb0⟩ := h0
      simp only [dt_lk, Bool.and_eq_true, Bool.or_eq_true, decide_eq_true_eq] at hlk
      obtain ⟨rfl, -, hq⟩ := hlk
      obtain ⟨tx, h5⟩ := hldc idx (hq.resolve_left (fun q => q ha))
      rw [List.map_cons, hold b hb0 hb64] at kk
      intro T hT X9
      obtain ⟨t9, a1, b1⟩ := kk T hT X9
      exact ⟨t9, X9.ldcStringW hx hown (text := tx) (a := k.2.2.2.2 b) h5.1 h5.2 (g := F0 m pc ls (st.map (ev_c (ev_ad k)))) rfl (by rw [hb]; exact hdg) t9 a1, b1⟩
    · cases h
  case invokevirtual idx =>
    have hn : n = 3 := of_decide_eq_true hlk
    subst hn
    simp only [ev_u] at h
    split at h
    · rename_i r rs
      split at h
      · rename_i h0
        cases h
        obtain ⟨ha, hd4, hr64, hlen, hcat⟩ := h0
        simp only [dt_cck] at hck
        rw [if_neg (by omega), if_pos ha] at hck
        have hlink := hts _ (dt_inG (of_decide_eq_true hck) rfl)
        obtain ⟨q, hq1, hq2⟩ := List.any_eq_true.mp (ks_mem r hr64 hlen)
        have hq2 : q.2.2.2 = r := of_decide_eq_true hq2
        subst hq2
        have hr0 : 1 < q.2.2.2 := (kt_ok q hq1).2.2.2.2.2.2
        obtain ⟨⟨ce, g1, g2, g3, -⟩, -⟩ := ((hks.2 q hq1).2).kept (fun a _ ha => hI.2.1 a (Nat.not_le.mp ha))
        rw [List.map_cons, hold q.2.2.2 (by omega) hr64]
        refine ks_go (r := some (.int (Int32.ofInt ((dt_ks q.2.2.2).length : Int)))) (va_runV (C := ks_S) (As := []) (rest := rs.map (ev_c (ev_ad k))) ⟨hx, hb, hml, hown, hts⟩ (kc_len l (A := ev_B k) (a := k.2.2.2.2 q.2.2.2) (n := (dt_ks q.2.2.2).length) (f := ks_f q.2.2.2) (ks_lw q.2.2.2 hr64)) ⟨callB_of 0 hts (ks_Gin kw_c_len) rfl rfl rfl (hts _ kw_n_S) hlink ⟨by decide, by decide, by decide +kernel⟩ ⟨by show 1 + 1 ≤ R.frames; omega, by show 8 + (1 + 11) + 20 ≤ R.locals; omega⟩, hts _ kw_i_len, hts _ kw_s_len⟩ ⟨ks_b1 _, ⟨ce, g1, g2, g3⟩, fun U hU' hW => ⟨rfl, (hpc U hU' hW).2.2.2.2.1, ((hpc U hU' hW).2.2.2.2.2 q hq1).2⟩⟩ rfl rfl hls rfl (lv_room (by rw [ev_sum]; exact hcat)) hdg ⟨hcR, hsR⟩) (fun _ _ _ h => h) ?_
        exact kk
      · cases h
    · rename_i iv r rs
      split at h
      · rename_i h0
        cases h
        obtain ⟨ha, hd4, hr64, hi0, hi1, hcat⟩ := h0
        simp only [dt_cck] at hck
        rw [if_neg (by omega), if_neg (by omega), if_pos ha] at hck
        have hlink := hts _ (dt_inG (of_decide_eq_true hck) rfl)
        obtain ⟨q, hq1, hq2⟩ := List.any_eq_true.mp (ks_mem r hr64 (by omega))
        have hq2 : q.2.2.2 = r := of_decide_eq_true hq2
        subst hq2
        have hr0 : 1 < q.2.2.2 := (kt_ok q hq1).2.2.2.2.2.2
        have hl31 : (dt_ks q.2.2.2).length < 2 ^ 31 := (kt_ok q hq1).2.2.2.2.2.1.2.1
        obtain ⟨⟨ce, g1, g2, g3, -⟩, -⟩ := ((hks.2 q hq1).2).kept (fun a _ ha => hI.2.1 a (Nat.not_le.mp ha))
        have hch := ks_chs q.2.2.2 hr64 (ev_w iv).toNat (by omega)
        rw [Bool.and_eq_true] at hch
        rw [List.map_cons, List.map_cons, hold q.2.2.2 (by omega) hr64]
        refine ks_go (r := some (.int (Int32.ofInt ((dt_ks q.2.2.2).getD (ev_w iv).toNat 0)))) (va_runV (C := ks_S) (As := [.int (Int32.ofInt iv)]) (rest := rs.map (ev_c (ev_ad k))) ⟨hx, hb, hml, hown, hts⟩ (kc_cha l (A := ev_B k) (a := k.2.2.2.2 q.2.2.2) (n := (dt_ks q.2.2.2).length) (f := ks_f q.2.2.2) (i := Int32.ofInt iv) (w := Int32.ofInt ((dt_ks q.2.2.2).length : Int)) (x := Int32.ofInt ((dt_ks q.2.2.2).getD (ev_w iv).toNat 0)) (fun z => by have := (ev_lt0 _).mp z; omega) (ks_lw q.2.2.2 hr64) ((ev_lt _ _).mpr (by rw [ev_w_in (x := ((dt_ks q.2.2.2).length : Int)) (by omega) (by omega)]; exact hi1)) (ev_in ⟨hi0, hi1⟩) (by rw [ev_nat]; exact of_decide_eq_true hch.1) (ks_nb_ok hch.2)) ⟨callB_of 1 hts (ks_Gin kw_c_cha) rfl rfl rfl (hts _ kw_n_S) hlink ⟨by decide, by decide, by decide +kernel⟩ ⟨by show 3 + 1 ≤ R.frames; omega, by show 8 + (2 + 11) + 64 ≤ R.locals; omega⟩, hts _ kw_i_cha, hts _ kw_s_cha⟩ ⟨ks_b1 _, ⟨ce, g1, g2, g3⟩, fun U hU' hW => ⟨rfl, (hpc U hU' hW).2.2.2.2.1, ((hpc U hU' hW).2.2.2.2.2 q hq1).2⟩⟩ rfl rfl hls rfl (lv_room (by rw [ev_sum]; exact hcat)) hdg ⟨hcR, hsR⟩) (fun _ _ _ h => h) ?_
        exact kk
      · cases h
    · cases h
  all_goals (simp [ev_u] at h)
set_option maxHeartbeats 1000000 in
theorem ev_ok {fg : eG} {l : Launch} {k : eK} (hD : dt_fine fg) (ha : ∀ b, b < dt_NM → (dt_pl b).2.1 = 5 → ∃ rt : FieldType, dt_rt b = some rt ∧ ((∃ n, rt = .object n) ∨ ∃ t, rt = .array t)) : ∀ n, ev_G fg l k n := by
  obtain ⟨hcl, hf2, hf3, hob1, hob2, hrow, hmk⟩ := hD
  intro n
  induction n with
  | zero =>
    intro d y pc lv st μ r μ' h
    cases h
  | succ n ih =>
    intro d y pc lv st μ r μ' h hy p e R s m args below meth c Q H locs cells slots ls c0 s0 X hI hl hc0 hs0 hcells hslots hRc hRs hfr hlo hret
    have hro := dt_row_ok (dt_all_ok _ (hrow y hy) pc)
    rw [ev] at h
    generalize (dt_co y).get pc = q at h hro
    obtain ⟨hdg, hlk, hck⟩ := hro
    split at h
    · rename_i z hz
      have hmo := ev_mono _ _ _ _ _ _ _ _ _ h
      unfold ev_1 at hz
      split at hz
      · rename_i hpc
        rw [hpc] at hdg
        split at hz
        · rename_i w hw
          cases hz
          have hn := dt_lk_len hlk hw
          rw [hn] at hdg
          exact ev_s_ok X.1 X.2.1 _ hdg hl (lv' := w.1) (st' := w.2) hw (fun ls' hl' => ih _ _ _ _ _ _ _ _ h hy p e R s m args below meth c Q H locs cells slots ls' c0 s0 X hI hl' hc0 hs0 hcells hslots hRc hRs hfr hlo hret)
        · split at hz
          · rename_i w hw
            cases hz
            exact ev_j_ok X.1 X.2.1 _ hdg (pc' := w.1) (st' := w.2) hw (ih _ _ _ _ _ _ _ _ h hy p e R s m args below meth c Q H locs cells slots ls c0 s0 X hI hl hc0 hs0 hcells hslots hRc hRs hfr hlo hret)
          · split at hz
            · rename_i w hw
              cases hz
              have hm1 := ev_m_mono (st' := w.1) (μ' := w.2) hw
              refine ev_m_ok (rest := []) X hcl hf2 hf3 hI hlk hdg (st' := w.1) (μ' := w.2) hw hc0 hs0 hcells hslots (Nat.le_trans (by have := hmo.1; simp only at this; omega) hRc) (Nat.le_trans (by have := hmo.2; simp only at this; omega) hRs) (fun H1 locs1 hI1 => ?_)
              exact ih _ _ _ _ _ _ _ _ h hy p e R s m args below meth c Q H1 locs1 _ _ ls c0 s0 X hI1 hl (Nat.le_trans hc0 hm1.1) (Nat.le_trans hs0 hm1.2) rfl rfl hRc hRs hfr hlo hret
            · split at hz
              · rename_i w hw
                cases hz
                obtain ⟨w1, w2⟩ := w
                rcases ev_o_ok hw with ⟨idx, r9, e1, e2, e3, e4, e5, e6⟩ | ⟨idx, b9, s9, e1, e2, e6, e7, e3, e4, e5⟩ | ⟨idx, n9, dp9, sp9, r9, q9, k9, m0, m1, e1, e2, e3, e4, e5, e6⟩ | ⟨idx, n9, dp9, sp9, r9, q9, k9, m0, m1, e1, e2, e3, e4, e5, e6⟩
                rotate_left
                · rw [e1] at hdg hck hlk
                  have hn : q.2.2.1 = 3 := of_decide_eq_true hlk
                  rw [hn] at hdg
                  simp only [dt_cck] at hck
                  rw [if_neg (by omega), if_pos e3] at hck
                  have hlink := X.2.2.2.2.1 _ (dt_inG (of_decide_eq_true hck) rfl)
                  subst e2
                  dsimp only at h
                  rw [e6, e7] at h
                  refine vn_f2i (b := b9) X.1 X.2.1 (X.2.2.1.trans hl.1.symm) X.2.2.2.1 hlink (X.2.2.2.2.1 _ hob1.2.1) (X.2.2.2.2.1 _ hob1.2.2.1) (X.2.2.2.2.1 _ hob1.2.2.2.1) (Nat.le_trans e4 hfr) (by
                    have h9 := ev_sum (ev_ad k) s9
                    omega) hdg ?_
                  have h8 := ih _ _ _ _ _ _ _ _ h hy p e R s m args below meth c Q H locs cells slots ls c0 s0 X hI hl hc0 hs0 hcells hslots hRc hRs hfr hlo hret
                  have h7 : (eI b9.toInt32.toInt :: s9).map (ev_c (ev_ad k)) = .int b9.toInt32 :: s9.map (ev_c (ev_ad k)) := by
                    show Value.int (Int32.ofInt b9.toInt32.toInt) :: _ = _
                    rw [Int32.ofInt_toInt]
                  rw [h7] at h8
                  exact h8
                · rw [e1] at hdg hck hlk
                  have hn : q.2.2.1 = 3 := of_decide_eq_true hlk
                  rw [hn] at hdg
                  simp only [dt_cck] at hck
                  rw [if_neg (by omega), if_neg (by omega), if_pos e3] at hck
                  have hlink := X.2.2.2.2.1 _ (dt_inG (of_decide_eq_true hck) rfl)
                  subst e2
                  obtain ⟨e7, e8⟩ := e6
                  dsimp only at h
                  refine ev_cpy X hI hl.1 hlink (X.2.2.2.2.1 _ hob1.2.2.2.2.1) (X.2.2.2.2.1 _ hob1.2.2.2.2.2.1) (X.2.2.2.2.1 _ hob1.2.2.2.2.2.2) e7 (Nat.le_trans e4 hfr) (by
                    have h9 := ev_sum (ev_ad k) w1
                    omega) hdg (fun H1 locs1 hI1 => ?_)
                  rw [e8] at h
                  exact ih _ _ _ _ _ _ _ _ h hy p e R s m args below meth c Q H1 locs1 cells slots ls c0 s0 X hI1 hl hc0 hs0 hcells hslots hRc hRs hfr hlo hret
                · rw [e1] at hdg hck hlk
                  have hn : q.2.2.1 = 3 := of_decide_eq_true hlk
                  rw [hn] at hdg
                  simp only [dt_cck] at hck
                  rw [if_neg (by omega), if_neg (by omega), if_pos e3] at hck
                  have hlink := X.2.2.2.2.1 _ (dt_inG (of_decide_eq_true hck) rfl)
                  subst e2
                  obtain ⟨e7, e8⟩ := e6
                  dsimp only at h
                  refine ev_cqy X hI hl.1 hlink (X.2.2.2.2.1 _ hob1.2.2.2.2.1) (X.2.2.2.2.1 _ hob1.2.2.2.2.2.1) (X.2.2.2.2.1 _ hob1.2.2.2.2.2.2) e7 (Nat.le_trans e4 hfr) (by
                    have h9 := ev_sum (ev_ad k) w1
                    omega) hdg (fun H1 locs1 hI1 => ?_)
                  rw [e8] at h
                  exact ih _ _ _ _ _ _ _ _ h hy p e R s m args below meth c Q H1 locs1 cells slots ls c0 s0 X hI1 hl hc0 hs0 hcells hslots hRc hRs hfr hlo hret
                rw [e1] at hdg hck hlk
                have hn : q.2.2.1 = 3 := of_decide_eq_true hlk
                rw [hn] at hdg
                simp only [dt_cck, if_pos e3, decide_eq_true_eq] at hck
                have hlink := X.2.2.2.2.1 _ (dt_inG hck rfl)
                subst e2
                dsimp only at h
                rw [e6] at h
                exact W.objInit X.1 X.2.1 X.2.2.2.1 hlink (X.2.2.2.2.1 _ hob1.1) (X.2.2.2.2.1 _ hob2) rfl (hl.1.trans X.2.2.1.symm) rfl hdg (Nat.le_trans e4 hfr) (by
                  have h9 := ev_sum (ev_ad k) w1
                  show 2 * 0 + _ + 12 ≤ _
                  omega) (ih _ _ _ _ _ _ _ _ h hy p e R s m args below meth c Q H locs cells slots ls c0 s0 X hI hl hc0 hs0 hcells hslots hRc hRs hfr hlo hret)
              · split at hz
                · cases hz
                · split at hz
                  · cases hz
                  · split at hz
                    · rename_i w hw
                      cases hz
                      exact ev_u_ok X hI hl.1 hlk hck hdg hw hfr hlo (by have h9 := hmo.1; simp only at h9; omega) (by have h9 := hmo.2; simp only at h9; omega) (ih _ _ _ _ _ _ _ _ h hy p e R s m args below meth c Q H locs cells slots ls c0 s0 X hI hl hc0 hs0 hcells hslots hRc hRs hfr hlo hret)
                    · cases hz
      · cases hz
    · rename_i r0 hz
      cases h
      unfold ev_1 at hz
      split at hz
      · rename_i hpc
        rw [hpc] at hdg
        split at hz
        · cases hz
        · split at hz
          · cases hz
          · split at hz
            · cases hz
            · split at hz
              · cases hz
              · split at hz
                · rename_i w hw
                  cases hz
                  have hn := ev_rt_one hlk hw
                  rw [hn] at hdg
                  rw [hcells, hslots]
                  exact hret H locs pc ls _ st hdg hw hI
                · split at hz
                  · cases hz
                  · split at hz <;> cases hz
      · cases hz
    · rename_i z hz
      split at h
      · rename_i hd0
        split at h
        · rename_i w hw
          unfold ev_1 at hz
          split at hz
          · rename_i hpc
            rw [hpc] at hdg
            split at hz
            · cases hz
            · split at hz
              · cases hz
              · split at hz
                · cases hz
                · split at hz
                  · cases hz
                  · split at hz
                    · cases hz
                    · split at hz
                      · rename_i v hv
                        cases hz
                        have hn := ev_cl2_three hlk hv
                        rw [hn] at hdg
                        obtain ⟨hb0, hb1⟩ := ev_cl2_b hck hv
                        have hmk1 := hmk _ hb0 hb1
                        have hsl := ev_cl2_sl (as := v.1) (rs := v.2) hv
                        have hmt := ev_met ih (r := w.1) (μ' := w.2) hw hb1 hmk1 hsl (ha _ hb1)
                        have hm1 := ev_mono _ _ _ _ _ _ _ w.1 w.2 hw
                        have hm2 := ev_mono _ _ _ _ _ _ _ _ _ h
                        have h61 : dt_mx q.2.2.2.1.2.1 ≤ 61 := by
                          unfold dt_mck at hmk1
                          simp only [Bool.and_eq_true, decide_eq_true_eq] at hmk1
                          exact hmk1.2
                        obtain ⟨av, hrun⟩ := ev_call (rest := []) (Q := Q) (R := R) (e := e) (below := below) (locs := locs) (cells := cells) (slots := slots) (mc := w.2.2.1.length - μ.2.1.length) (ms := w.2.2.2 - μ.2.2) X hI hl.1 hck hmk1 hdg (as := v.1) (rs := v.2) hv rfl rfl (by show d - 1 + 1 ≤ R.frames; omega) (by show 8 + (dt_mx _ + 11) + 80 * (d - 1) ≤ R.locals; omega) (by omega) (by omega) hmt
                        intro T hT X9
                        obtain ⟨va, st0, t9, T', L, h0, X2, hL, e1, e2, hq, hst⟩ := hrun T hT X9
                        obtain ⟨q1, q2, q3⟩ := hq
                        have q1 : va = w.1.map (ev_c (ev_ad k)) := by cases q1; rfl
                        have hI2 : ev_I k w.2 s.heap T'.heap (locs ++ L) := by
                          refine ⟨by rw [e1]; exact q2, fun q hq => ?_, fun q hq => ?_⟩
                          · rw [e1, q3 q hq, h0]
                            exact hI.2.1 q hq
                          · rcases List.mem_append.mp hq with h9 | h9
                            · exact hI.2.2 q h9
                            · exact hL q h9
                        have hk := ih _ _ _ _ _ _ _ _ h hy p e R s m args below meth c Q T'.heap (locs ++ L) (cells + (w.2.2.1.length - μ.2.1.length)) (slots + (w.2.2.2 - μ.2.2)) ls c0 s0 X hI2 hl (by omega) (by omega) (by omega) (by omega) hRc hRs hfr hlo hret T' rfl X2
                        obtain ⟨t2, a1, b1⟩ := hk
                        refine ⟨t2, hst t2 ?_, b1⟩
                        rw [q1]
                        have e9 : (w.1.map (ev_c (ev_ad k))).toList ++ v.2.map (ev_c (ev_ad k)) = (w.1.toList ++ v.2).map (ev_c (ev_ad k)) := by
                          rw [List.map_append]
                          cases w.1 <;> rfl
                        rw [e9]
                        exact a1
                      · split at hz <;> cases hz
          · cases hz
        · cases h
      · cases h
    · cases h
