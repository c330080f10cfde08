/-! THE LAW out of a run of the small machine -/
theorem ev_rt_law {i : Instr} {st : List eV} (h : ev_rt 0 i st = some (some (eI 1))) : i = .ireturn ∧ st = [eI 1] := by
  unfold ev_rt at h
  split at h
  · split at h
    · split at h <;> cases h
    · cases h
  · split at h
    · split at h
      · cases h
        exact ⟨rfl, rfl⟩
      · cases h
    · cases h
  · split at h
    · split at h <;> cases h
    · cases h
  · split at h
    · split at h <;> cases h
    · cases h
  · split at h
    · split at h <;> cases h
    · cases h
  · cases h
abbrev dt_M0 : eM := (fun _ _ => 0, [], 0)
theorem ev_law {p : Program} {e : Env} {s : State} {m : MethodId} {below : List Frame} {meth : Method} {c : Code} (l : Launch) {b L : Nat} {xs : Nat → Int32} (hL : L < 2 ^ 31) (C0 : lw_At p s m meth c b L xs)
    (hD : dt_fine (dt_fg L (fun j => (xs j).toInt))) (ha : ∀ b, b < dt_NM → (dt_pl b).2.1 = 5 → ∃ rt : FieldType, dt_rt b = some rt ∧ ((∃ n, rt = .object n) ∨ ∃ t, rt = .array t))
    (hst : ∀ q ∈ dt_st, dt_sck q) (hst2 : ∀ r : Nat, dt_sk r ≠ 0 → ∃ q ∈ dt_st, q.2.2.2 = r) (hst3 : ∀ q ∈ dt_st, ∀ q' ∈ dt_st, q.2.2.2 = q'.2.2.2 → q = q') (haw : Cond.arrayClass .int ∈ lw_tbl ∧ Cond.arrayClass .long ∈ lw_tbl ∧ Cond.arrayClass .byte ∈ lw_tbl ∧ Cond.arrayClass .boolean ∈ lw_tbl)
    (run : ∃ (n : Nat) (μ' : eM), ev (dt_fg L (fun j => (xs j).toInt)) n 40 0 0 (ev_en 4 [eR 1]) [] dt_M0 = some (some (eI 1), μ') ∧ μ'.2.1.length ≤ 600000 ∧ μ'.2.2 ≤ 7302250) :
    W p l e room_1 s m #[Value.ref b] below meth c s.heap [] 0 0 (lw_Z below #[Value.ref b] s) (entryFrame m ([Value.ref b] : List Value).toArray 4) := by
  obtain ⟨hx, hb, hr, hml, hown, hts, hX, hbl, hlocks, hgv⟩ := C0
  obtain ⟨n, μ', hrun, hc, hs⟩ := run
  obtain ⟨k, hk1, hk2, hU⟩ := dt_knows hD.1 hst hst2 hst3 haw hts hX hbl hL hgv
  have X : ev_X k (dt_fg L (fun j => (xs j).toInt)) 0 p s m #[Value.ref b] meth c := ⟨hx, hb, hml, hown, fun w hw => hts w (List.mem_filter.mp hw).1, hU, hr, hlocks, fun q => absurd q (by decide +kernel)⟩
  have hmap : ([eR 1] : List eV).map (ev_c (ev_ad k)) = [Value.ref b] := by
    show [Value.ref (ev_ad k 1)] = _
    unfold ev_ad
    rw [if_pos (by decide), hk2]
  have hl := ev_en_ok (ev_ad k) [eR 1] (n := 4) (by decide)
  rw [hmap] at hl
  have hW0 : ev_Wd k dt_M0 s.heap := ⟨by rw [hk1]; rfl, fun j kd n h => by cases h⟩
  rw [lg_entry_eq]
  exact ev_ok hD ha n 40 0 0 (ev_en 4 [eR 1]) [] dt_M0 (some (eI 1)) μ' hrun (by decide) p e room_1 s m #[Value.ref b] below meth c (lw_Z below #[Value.ref b] s) s.heap [] 0 0 _ 0 0 X ⟨hW0, fun q _ => rfl, fun q hq => by cases hq⟩ hl (Nat.zero_le _) (Nat.zero_le _) rfl rfl hc hs (Nat.le_of_ble_eq_true rfl) (Nat.le_of_ble_eq_true rfl) (fun H1 locs1 pc1 ls1 i st1 hdg hrt hI => by
    obtain ⟨e1, e2⟩ := ev_rt_law hrt
    subst e1
    subst e2
    refine W.widen (k := 600000) (n := 7302250) hc hs ?_
    refine va_forget (fun q hq => by rw [← hk1]; exact hI.2.2 q hq) ?_
    exact lw_ret (Drawn.sameBut.refl s.drawn lw_cs) hx hb hr hlocks hdg)
/-! the run out of the abstract evaluator -/
abbrev dt_B0 : sB := List.replicate 8 (-2147483648, 2147483647)
def sn_is (n : sN) (x : Int) : Bool := match n with
  | .inl a => decide (a = x)
  | _ => false
theorem sn_is_ok {n : sN} {x : Int} (h : sn_is n x = true) : n = .inl x := by
  cases n with
  | inl a => rw [of_decide_eq_true (show decide (a = x) = true from h)]
  | inr a => cases h
def sn_sy (n : sN) (j : Nat) : Bool := match n with
  | .inr (.inl (.inl i)) => decide (i = j)
  | _ => false
theorem sn_sy_ok {n : sN} {j : Nat} (h : sn_sy n j = true) : n = .inr (.inl (.inl j)) := by
  rcases n with a | ((i | b) | u)
  · cases h
  · rw [of_decide_eq_true (show decide (i = j) = true from h)]
  · cases h
  · cases h
theorem dt_sx_ck : ∀ j, j < 8 → sn_sy (dt_sx.get j) j = true := by decide +kernel
theorem dt_sa_ck : ∀ r, r < 64 → ∀ j, j < (dt_sv r).length → sn_is ((dt_sa r).get j) ((dt_sv r).getD j 0) = true := by decide +kernel
theorem dt_sx_ok (j : Nat) (h : j < 8) : dt_sx.get j = .inr (.inl (.inl j)) := sn_sy_ok (dt_sx_ck j h)
theorem dt_sa_ok (r : Nat) (hr : r < 64) (j : Nat) (h : j < (dt_sv r).length) : (dt_sa r).get j = .inl ((dt_sv r).getD j 0) := sn_is_ok (dt_sa_ck r hr j h)
theorem dt_sg_ok {L : Nat} (hL : L ≤ 8) (xs : Nat → Int) : sg_r xs (dt_sg L) (dt_fg L xs) := by
  intro r hr _
  by_cases h1 : r = 1
  · subst h1
    refine ⟨rfl, rfl, fun j hj => ?_⟩
    have hj : j < L := hj
    show sn_r xs (dt_sx.get j) (xs j)
    rw [dt_sx_ok j (by omega)]
    rfl
  · have hs : dt_sg L r = (dt_sk r, (dt_sv r).length, dt_sa r) := by
      unfold dt_sg
      split
      · exact absurd rfl h1
      · rfl
    have hf : dt_fg L xs r = (dt_sk r, (dt_sv r).length, fun j => (dt_sv r).getD j 0) := by
      unfold dt_fg
      rw [if_neg h1]
    rw [hs, hf]
    refine ⟨rfl, rfl, fun j hj => ?_⟩
    show sn_r xs ((dt_sa r).get j) ((dt_sv r).getD j 0)
    rw [dt_sa_ok r hr j hj]
    rfl
theorem dt_B0_in (xs : Nat → Int32) : sb_in (fun j => (xs j).toInt) dt_B0 := by
  intro i q hq
  rw [List.getElem?_replicate] at hq
  split at hq
  · cases hq
    exact ev_i32 _
  · cases hq
theorem dt_run {L : Nat} (hL : L ≤ 8) (xs : Nat → Int32) {n : Nat} (h : sv (dt_sg L) 4096 1000000 n dt_B0 dt_S0 = true) : ∃ (n : Nat) (μ' : eM), ev (dt_fg L (fun j => (xs j).toInt)) n 40 0 0 (ev_en 4 [eR 1]) [] dt_M0 = some (some (eI 1), μ') ∧ μ'.2.1.length ≤ 600000 ∧ μ'.2.2 ≤ 7302250 := by
  have hlo : lo_r (fun j => (xs j).toInt) [some (.inl (eR 1)), none, none, none] (ev_en 4 [eR 1]) := by
    refine ⟨rfl, fun i => ?_⟩
    match i with
    | 0 => exact (rfl : eR 1 = eR 1)
    | 1 => exact True.intro
    | 2 => exact True.intro
    | 3 => exact True.intro
    | i + 4 => exact True.intro
  have hS : ss_r (fun j => (xs j).toInt) dt_S0 (40, (0, 0, ev_en 4 [eR 1], []), [], dt_M0) := ⟨rfl, ⟨rfl, rfl, hlo, True.intro⟩, True.intro, rfl, rfl, Nat.zero_le _, True.intro, fun j hj => absurd hj (Nat.not_lt_zero j)⟩
  obtain ⟨m, μ', h1, h2, h3⟩ := sv_ok (dt_sg_ok hL _) n dt_B0 dt_S0 _ h (dt_B0_in xs) hS
  obtain ⟨m2, r, μ1, h4, h5, -⟩ := ex_ev m _ _ h1
  have e1 := h5 rfl
  cases e1
  exact ⟨m2, μ', h4, Nat.le_trans h2 (by decide), Nat.le_trans h3 (by decide)⟩
