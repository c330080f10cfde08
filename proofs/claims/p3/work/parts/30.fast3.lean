/-! THE FAST EVALUATOR: each row's own step -/
noncomputable def f_no : fC := fun _ _ _ _ _ _ z => z
noncomputable def f_nz (x : Int) : Bool := @Int.rec (fun _ => Bool) (fun n => Nat.ble 1 n) (fun _ => true) x
theorem f_nz_ok {x : Int} (h : f_nz x = true) : x ≠ 0 := by
  rcases x with n | n
  · have h : Nat.ble 1 n = true := h
    have := Nat.ble_eq.mp h
    intro q
    have q : (n : Int) = 0 := q
    omega
  · intro q
    cases q
theorem sv_s_no {i : Instr} (h : dt_kl i ≠ 0) (B : sB) (lv : List (Option sV)) (st : List sV) : sv_s B i lv st = none := by
  cases i <;> first | rfl | exact absurd rfl h
theorem sv_j_no {i : Instr} (h : dt_kl i ≠ 1) (B : sB) (n pc : Nat) (st : List sV) : sv_j B i n pc st = none := by
  cases i <;> first | rfl | exact absurd rfl h
theorem sv_m_no {i : Instr} (h : dt_kl i ≠ 2) (sg : sG) (B : sB) (a b t : Nat) (x : Int) (st : List sV) (M : sM) : sv_m sg B i a b t x st M = none := by
  cases i <;> first | rfl | exact absurd rfl h
theorem sv_cz_no {i : Instr} (h : 3 ≤ dt_kl i) (B : sB) (st : List sV) : sv_cz B i st = none := by
  cases i <;> first | rfl | exact absurd (show 3 ≤ 0 from h) (by decide) | exact absurd (show 3 ≤ 1 from h) (by decide) | exact absurd (show 3 ≤ 2 from h) (by decide)
theorem sv_o_no {i : Instr} (h : dt_kl i ≠ 4) (d a : Nat) (st : List sV) (M : sM) : sv_o d i a st M = none := by
  cases i <;> first | rfl | exact absurd rfl h
theorem sv_o_no2 {i : Instr} {a : Nat} (h : a ≤ 2) (d : Nat) (st : List sV) (M : sM) : sv_o d i a st M = none := by
  unfold sv_o
  split
  · split
    · rw [if_neg (fun q => by have := q.1; omega)]
    · rfl
  · split
    · rw [if_neg (fun q => by have := q.1; omega)]
    · rw [if_neg (fun q => by have := q.1; omega)]
    · rfl
  · rfl
theorem sv_rt_no {i : Instr} (h : dt_kl i ≠ 3) (B : sB) (y : Nat) (st : List sV) : sv_rt B y i st = none := by
  cases i <;> first | rfl | exact absurd rfl h
/-- the step is this one state, which is handed on -/
def fv_nx (sg : sG) (rc rs : Nat) (B : sB) (S : sSt) (q : eL) (Q : fK) : Prop := ∃ d y pc lv st F M, sv_1 sg rc rs B S q = some [(B, (d, (y, pc, lv, st), F, M))] ∧ Q d y pc lv st F M = true
theorem fv_s {sg : sG} {rc rs : Nat} {B : sB} {i : Instr} {n y pc d : Nat} {z : Nat × Nat × Nat × Nat} {x : Int} {f : fC} {lv : List (Option sV)} {st : List sV} {F : List sFr} {M : sM} {Q : fK} (hf : fs_ok i y (pc + ev_len i) f) (h : f d lv st F M Q false = true) : fv_nx sg rc rs B (d, (y, pc, lv, st), F, M) (pc, i, n, z, x) Q := by
  obtain ⟨lv', st', h1, h2⟩ := hf B d lv st F M Q h
  refine ⟨_, _, _, _, _, _, _, ?_, h2⟩
  unfold sv_1
  dsimp only
  rw [if_pos rfl, h1]
theorem fv_j {sg : sG} {rc rs : Nat} {B : sB} {i : Instr} {n y pc d : Nat} {z : Nat × Nat × Nat × Nat} {x : Int} {f : fC} {lv : List (Option sV)} {st : List sV} {F : List sFr} {M : sM} {Q : fK} (hk : dt_kl i = 1) (hf : fj_ok i n pc y f) (h : f d lv st F M Q false = true) : fv_nx sg rc rs B (d, (y, pc, lv, st), F, M) (pc, i, n, z, x) Q := by
  obtain ⟨np, st', h1, h2⟩ := hf B d lv st F M Q h
  refine ⟨_, _, _, _, _, _, _, ?_, h2⟩
  unfold sv_1
  dsimp only
  rw [if_pos rfl, sv_s_no (by rw [hk]; decide)]
  dsimp only
  rw [h1]
  rfl
theorem fv_m {sg : sG} {rc rs : Nat} {B : sB} {i : Instr} {n y pc d a b t pl : Nat} {x : Int} {f : fC} {lv : List (Option sV)} {st : List sV} {F : List sFr} {M : sM} {Q : fK} (hk : dt_kl i = 2) (hf : fm_ok sg i a b t x y (pc + n) f) (h : f d lv st F M Q false = true) : fv_nx sg rc rs B (d, (y, pc, lv, st), F, M) (pc, i, n, (a, b, t, pl), x) Q := by
  obtain ⟨st', M', h1, h2⟩ := hf B d lv st F M Q h
  refine ⟨_, _, _, _, _, _, _, ?_, h2⟩
  unfold sv_1
  dsimp only
  rw [if_pos rfl, sv_s_no (by rw [hk]; decide)]
  dsimp only
  rw [sv_j_no (by rw [hk]; decide)]
  dsimp only
  rw [h1]
theorem fv_q {sg : sG} {rc rs : Nat} {B : sB} {i : Instr} {n y pc d a b t pl : Nat} {x : Int} {f : fC} {lv : List (Option sV)} {st : List sV} {F : List sFr} {M : sM} {Q : fK} (hk : dt_kl i = 4) (ha : a ≤ 2) (hf : fq_ok i a b t y pc f) (h : f d lv st F M Q false = true) : fv_nx sg rc rs B (d, (y, pc, lv, st), F, M) (pc, i, n, (a, b, t, pl), x) Q := by
  obtain ⟨as, rs', h1, h2, h3⟩ := hf d lv st F M Q h
  refine ⟨_, _, _, _, _, _, _, ?_, h3⟩
  unfold sv_1
  dsimp only
  rw [if_pos rfl, sv_s_no (by rw [hk]; decide)]
  dsimp only
  rw [sv_j_no (by rw [hk]; decide)]
  dsimp only
  rw [sv_m_no (by rw [hk]; decide)]
  dsimp only
  rw [sv_cz_no (by rw [hk]; decide)]
  dsimp only
  rw [sv_o_no2 ha]
  dsimp only
  rw [sv_rt_no (by rw [hk]; decide)]
  dsimp only
  rw [h1]
  dsimp only
  rw [if_pos h2]
theorem fv_oo {sg : sG} {rc rs : Nat} {B : sB} {i : Instr} {n y pc d a b t pl : Nat} {x : Int} {lv : List (Option sV)} {st s : List sV} {F : List sFr} {M : sM} {Q : fK} (hk : dt_kl i = 4) (h : sv_o d i a st M = some (s, M)) (h2 : Q d y (pc + 3) lv s F M = true) : fv_nx sg rc rs B (d, (y, pc, lv, st), F, M) (pc, i, n, (a, b, t, pl), x) Q := by
  refine ⟨_, _, _, _, _, _, _, ?_, h2⟩
  unfold sv_1
  dsimp only
  rw [if_pos rfl, sv_s_no (by rw [hk]; decide)]
  dsimp only
  rw [sv_j_no (by rw [hk]; decide)]
  dsimp only
  rw [sv_m_no (by rw [hk]; decide)]
  dsimp only
  rw [sv_cz_no (by rw [hk]; decide)]
  dsimp only
  rw [h]
theorem fv_r {sg : sG} {rc rs : Nat} {B : sB} {i : Instr} {n y pc d : Nat} {z : Nat × Nat × Nat × Nat} {x : Int} {f : fC} {lv : List (Option sV)} {st : List sV} {F : List sFr} {M : sM} {Q : fK} (hk : dt_kl i = 3) (hf : fr_ok y i f) (h : f d lv st F M Q false = true) : fv_nx sg rc rs B (d, (y, pc, lv, st), F, M) (pc, i, n, z, x) Q := by
  obtain ⟨r, f0, fs, h1, rfl, h2⟩ := hf B d lv st F M Q h
  refine ⟨_, _, _, _, _, _, _, ?_, h2⟩
  unfold sv_1
  dsimp only
  rw [if_pos rfl, sv_s_no (by rw [hk]; decide)]
  dsimp only
  rw [sv_j_no (by rw [hk]; decide)]
  dsimp only
  rw [sv_m_no (by rw [hk]; decide)]
  dsimp only
  rw [sv_cz_no (by rw [hk]; decide)]
  dsimp only
  rw [sv_o_no (by rw [hk]; decide)]
  dsimp only
  rw [h1]
noncomputable def fv_di (sg : sG) (y pc n a b t : Nat) (x : Int) (i : Instr) : fC × Unit := match i with
  | .iload k => (fs_ld f_t0 k y (pc + 2), ())
  | .iload_n k => (fs_ld f_t0 k.val y (pc + 1), ())
  | .lload k => (fs_ld f_t1 k y (pc + 2), ())
  | .lload_n k => (fs_ld f_t1 k.val y (pc + 1), ())
  | .aload k => (fs_ld f_t4 k y (pc + 2), ())
  | .aload_n k => (fs_ld f_t4 k.val y (pc + 1), ())
  | .istore k => (fs_sr f_t0 k y (pc + 2), ())
  | .istore_n k => (fs_sr f_t0 k.val y (pc + 1), ())
  | .astore k => (fs_sr f_t4 k y (pc + 2), ())
  | .astore_n k => (fs_sr f_t4 k.val y (pc + 1), ())
  | .lstore k => (fs_sr2 f_t1 k y (pc + 2), ())
  | .lstore_n k => (fs_sr2 f_t1 k.val y (pc + 1), ())
  | .iinc k m => (fs_inc k m y (pc + 3), ())
  | .iconst m => (fs_c (.inl (eI m)) y (pc + 1), ())
  | .lconst m => (fs_c (.inl (eJ (m.val : Int))) y (pc + 1), ())
  | .bipush m => (if -128 ≤ m ∧ m ≤ 127 then fs_c (.inl (eI m)) y (pc + 2) else f_no, ())
  | .sipush m => (if -32768 ≤ m ∧ m ≤ 32767 then fs_c (.inl (eI m)) y (pc + 3) else f_no, ())
  | .iadd => (fs_III (fun a b K => fi_add a b fun u => f_wz u K) y (pc + 1), ())
  | .isub => (fs_III (fun a b K => fi_sub a b fun u => f_wz u K) y (pc + 1), ())
  | .imul => (fs_III (fun a b K => f_I (a * b) fun u => f_wz u K) y (pc + 1), ())
  | .ladd => (fs_JJJ (fun a b K => fi_add a b fun u => f_Wz u K) y (pc + 1), ())
  | .lsub => (fs_JJJ (fun a b K => fi_sub a b fun u => f_Wz u K) y (pc + 1), ())
  | .lmul => (fs_JJJ (fun a b K => f_I (a * b) fun u => f_Wz u K) y (pc + 1), ())
  | .iand => (fs_III (fun a b K => f_I ((Int32.ofInt a &&& Int32.ofInt b).toInt) K) y (pc + 1), ())
  | .ior => (fs_III (fun a b K => f_I ((Int32.ofInt a ||| Int32.ofInt b).toInt) K) y (pc + 1), ())
  | .ixor => (fs_III (fun a b K => f_I ((Int32.ofInt a ^^^ Int32.ofInt b).toInt) K) y (pc + 1), ())
  | .ishl => (fs_III (fun a b K => f_I ((Int32.ofInt a <<< (Int32.ofInt b &&& 31)).toInt) K) y (pc + 1), ())
  | .ishr => (fs_III (fun a b K => f_I ((Int32.ofInt a >>> (Int32.ofInt b &&& 31)).toInt) K) y (pc + 1), ())
  | .iushr => (fs_III (fun a b K => f_I ((((Int32.ofInt a).toUInt32 >>> ((Int32.ofInt b).toUInt32 &&& Int32.toUInt32 31)).toInt32).toInt) K) y (pc + 1), ())
  | .land => (fs_JJJ (fun a b K => f_I ((Int64.ofInt a &&& Int64.ofInt b).toInt) K) y (pc + 1), ())
  | .lor => (fs_JJJ (fun a b K => f_I ((Int64.ofInt a ||| Int64.ofInt b).toInt) K) y (pc + 1), ())
  | .lxor => (fs_JJJ (fun a b K => f_I ((Int64.ofInt a ^^^ Int64.ofInt b).toInt) K) y (pc + 1), ())
  | .lshl => (fs_JIJ (fun a b K => f_I ((Int64.ofInt a <<< ((Int32.ofInt b).toInt64 &&& 63)).toInt) K) y (pc + 1), ())
  | .lshr => (fs_JIJ (fun a b K => f_I ((Int64.ofInt a >>> ((Int32.ofInt b).toInt64 &&& 63)).toInt) K) y (pc + 1), ())
  | .lushr => (fs_JIJ (fun a b K => f_I ((((Int64.ofInt a).toUInt64 >>> ((Int32.ofInt b).toInt64.toUInt64 &&& Int64.toUInt64 63)).toInt64).toInt) K) y (pc + 1), ())
  | .idiv => (fs_III (fun a b K => f_if false (f_w a) (f_if false (f_w b) (f_if false (f_nz b) (f_I (Int.tdiv a b) (fun u => f_wz u K))))) y (pc + 1), ())
  | .irem => (fs_III (fun a b K => f_if false (f_w a) (f_if false (f_w b) (f_if false (f_nz b) (f_I (Int.tmod a b) (K))))) y (pc + 1), ())
  | .lcmp => (fs_JJI (fun a b K => f_if false (f_W a) (f_if false (f_W b) (f_cmp a b (K (-1)) (K 0) (K 1)))) y (pc + 1), ())
  | .ineg => (fs_uII (fun a K => f_I (-a) fun u => f_wz u K) y (pc + 1), ())
  | .i2b => (fs_uII (fun a K => f_I ((a + 128) % 256 - 128) K) y (pc + 1), ())
  | .i2s => (fs_uII (fun a K => f_I ((a + 32768) % 65536 - 32768) K) y (pc + 1), ())
  | .l2i => (fs_uJI (fun a K => f_wz a K) y (pc + 1), ())
  | .i2l => (fs_uIJ (fun a K => f_if false (f_w a) (K a)) y (pc + 1), ())
  | .dup => (fs_dup y (pc + 1), ())
  | .pop => (fs_pop y (pc + 1), ())
  | .ifCond c off => (if n = 3 ∧ 0 ≤ (pc : Int) + off then fj_if (sv_tg pc off (sv_fl c).1) (sv_tg pc off (sv_fl c).2.1) (sv_tg pc off (sv_fl c).2.2) y else f_no, ())
  | .if_icmp c off => (if n = 3 ∧ 0 ≤ (pc : Int) + off then fj_ic (sv_tg pc off (sv_fl c).1) (sv_tg pc off (sv_fl c).2.1) (sv_tg pc off (sv_fl c).2.2) y else f_no, ())
  | .goto off => (if n = 3 ∧ 0 ≤ (pc : Int) + off then fj_go (((pc : Int) + off).toNat) y else f_no, ())
  | .ifnonnull off => (if n = 3 ∧ 0 ≤ (pc : Int) + off then fj_nu (pc + 3) (((pc : Int) + off).toNat) y else f_no, ())
  | .ifnull off => (if n = 3 ∧ 0 ≤ (pc : Int) + off then fj_nu (((pc : Int) + off).toNat) (pc + 3) y else f_no, ())
  | .getfield idx => (match t with
    | 0 => fm_gf pvI a b y (pc + n)
    | 1 => fm_gf pvI a b y (pc + n)
    | 2 => fm_gf pvJ a b y (pc + n)
    | 3 => fm_gf pvR a b y (pc + n)
    | _ => f_no, ())
  | .putfield idx => (match t with
    | 0 => fm_pf qvI a b y (pc + n)
    | 1 => fm_pf qvZ a b y (pc + n)
    | 2 => fm_pf qvJ a b y (pc + n)
    | 3 => fm_pf qvR a b y (pc + n)
    | _ => f_no, ())
  | .iaload => (fm_al pvI sg 100 y (pc + n), ())
  | .laload => (fm_al pvJ sg 101 y (pc + n), ())
  | .iastore => (fm_as qvI 100 y (pc + n), ())
  | .lastore => (fm_as qvJ 101 y (pc + n), ())
  | .arraylength => (fm_len sg y (pc + n), ())
  | .new idx => (fm_new a (dt_lay a).length y (pc + n), ())
  | .newarray ty => (fm_na a y (pc + n), ())
  | .getstatic idx => (fs_c (.inl (eR a)) y (pc + n), ())
  | .ldc idx => (if a = 0 then fs_c (.inl (eI x)) y (pc + n) else f_no, ())
  | .ldc_w idx => (if a = 0 then fs_c (.inl (eI x)) y (pc + n) else f_no, ())
  | .ldc2_w idx => (if a = 1 then fs_c (.inl (eJ x)) y (pc + n) else f_no, ())
  | .invokestatic idx => (if a = 2 ∧ x.toNat ≤ dt_mx b then fq_s b t x.toNat (dt_mx b) y (pc + 3) else f_no, ())
  | .invokevirtual idx => (if a = 0 ∧ x.toNat ≤ dt_mx b then fq_v b t x.toNat (dt_mx b) (dt_pl b).2.2.2.2.2.2.2 y (pc + 3) else f_no, ())
  | .invokespecial idx => (if a = 1 ∧ x.toNat ≤ dt_mx b then fq_i b t x.toNat (dt_mx b) y (pc + 3) else if a = 10 then fq_o y (pc + 3) else f_no, ())
  | .return_ => (if (dt_pl y).2.1 = 0 then fr_0 else f_no, ())
  | .ireturn => (if (dt_pl y).2.1 = 1 then fr_1 f_t0 else if (dt_pl y).2.1 = 2 then fr_1 f_z else f_no, ())
  | .lreturn => (if (dt_pl y).2.1 = 3 then fr_1 f_t1 else f_no, ())
  | .areturn => (if (dt_pl y).2.1 = 5 then fr_1 f_r else f_no, ())
  | _ => (f_no, ())
set_option maxHeartbeats 4000000 in
theorem fv_di_ok {sg : sG} {rc rs : Nat} {B : sB} {i : Instr} {n y pc d a b t pl : Nat} {x : Int} {lv : List (Option sV)} {st : List sV} {F : List sFr} {M : sM} {Q : fK} (h : (fv_di sg y pc n a b t x i).1 d lv st F M Q false = true) : fv_nx sg rc rs B (d, (y, pc, lv, st), F, M) (pc, i, n, (a, b, t, pl), x) Q := by
  cases i
  case iload k =>
    simp only [fv_di] at h
    exact fv_s (fs_ld_ok (t := 0) (fun _ => f_t0_ok) (fun _ _ _ => rfl)) h
  case iload_n k =>
    simp only [fv_di] at h
    exact fv_s (fs_ld_ok (t := 0) (fun _ => f_t0_ok) (fun _ _ _ => rfl)) h
  case lload k =>
    simp only [fv_di] at h
    exact fv_s (fs_ld_ok (t := 1) (fun _ => f_t1_ok) (fun _ _ _ => rfl)) h
  case lload_n k =>
    simp only [fv_di] at h
    exact fv_s (fs_ld_ok (t := 1) (fun _ => f_t1_ok) (fun _ _ _ => rfl)) h
  case aload k =>
    simp only [fv_di] at h
    exact fv_s (fs_ld_ok (t := 4) (fun _ => f_t4_ok) (fun _ _ _ => rfl)) h
  case aload_n k =>
    simp only [fv_di] at h
    exact fv_s (fs_ld_ok (t := 4) (fun _ => f_t4_ok) (fun _ _ _ => rfl)) h
  case istore k =>
    simp only [fv_di] at h
    exact fv_s (fs_sr_ok (t := 0) (fun _ => f_t0_ok) (fun _ _ _ => rfl)) h
  case istore_n k =>
    simp only [fv_di] at h
    exact fv_s (fs_sr_ok (t := 0) (fun _ => f_t0_ok) (fun _ _ _ => rfl)) h
  case astore k =>
    simp only [fv_di] at h
    exact fv_s (fs_sr_ok (t := 4) (fun _ => f_t4_ok) (fun _ _ _ => rfl)) h
  case astore_n k =>
    simp only [fv_di] at h
    exact fv_s (fs_sr_ok (t := 4) (fun _ => f_t4_ok) (fun _ _ _ => rfl)) h
  case lstore k =>
    simp only [fv_di] at h
    exact fv_s (fs_sr2_ok (t := 1) (fun _ => f_t1_ok) (fun _ _ _ => rfl)) h
  case lstore_n k =>
    simp only [fv_di] at h
    exact fv_s (fs_sr2_ok (t := 1) (fun _ => f_t1_ok) (fun _ _ _ => rfl)) h
  case iinc k m =>
    simp only [fv_di] at h
    exact fv_s fs_inc_ok h
  case iconst m =>
    simp only [fv_di] at h
    exact fv_s (fs_c_ok rfl ⟨_, rfl⟩) h
  case lconst m =>
    simp only [fv_di] at h
    exact fv_s (fs_c_ok rfl ⟨_, rfl⟩) h
  case bipush m =>
    simp only [fv_di] at h
    split at h
    · rename_i h0
      exact fv_s (fs_c_ok rfl ⟨[], by simp only [ev_s]; rw [if_pos h0]⟩) h
    · exact f_none h
  case sipush m =>
    simp only [fv_di] at h
    split at h
    · rename_i h0
      exact fv_s (fs_c_ok rfl ⟨[], by simp only [ev_s]; rw [if_pos h0]⟩) h
    · exact f_none h
  case iadd =>
    simp only [fv_di] at h
    exact fv_s (fs_III_ok rfl (fun a b K hh => by rw [fi_add_eq] at hh; rw [f_wz_eq] at hh; exact ⟨_, [], rfl, hh⟩)) h
  case isub =>
    simp only [fv_di] at h
    exact fv_s (fs_III_ok rfl (fun a b K hh => by rw [fi_sub_eq] at hh; rw [f_wz_eq] at hh; exact ⟨_, [], rfl, hh⟩)) h
  case imul =>
    simp only [fv_di] at h
    exact fv_s (fs_III_ok rfl (fun a b K hh => by rw [f_I_eq] at hh; rw [f_wz_eq] at hh; exact ⟨_, [], rfl, hh⟩)) h
  case ladd =>
    simp only [fv_di] at h
    exact fv_s (fs_JJJ_ok rfl (fun a b K hh => by rw [fi_add_eq] at hh; rw [f_Wz_eq] at hh; exact ⟨_, [], rfl, hh⟩)) h
  case lsub =>
    simp only [fv_di] at h
    exact fv_s (fs_JJJ_ok rfl (fun a b K hh => by rw [fi_sub_eq] at hh; rw [f_Wz_eq] at hh; exact ⟨_, [], rfl, hh⟩)) h
  case lmul =>
    simp only [fv_di] at h
    exact fv_s (fs_JJJ_ok rfl (fun a b K hh => by rw [f_I_eq] at hh; rw [f_Wz_eq] at hh; exact ⟨_, [], rfl, hh⟩)) h
  case iand =>
    simp only [fv_di] at h
    exact fv_s (fs_III_ok rfl (fun a b K hh => by rw [f_I_eq] at hh; exact ⟨_, [], rfl, hh⟩)) h
  case ior =>
    simp only [fv_di] at h
    exact fv_s (fs_III_ok rfl (fun a b K hh => by rw [f_I_eq] at hh; exact ⟨_, [], rfl, hh⟩)) h
  case ixor =>
    simp only [fv_di] at h
    exact fv_s (fs_III_ok rfl (fun a b K hh => by rw [f_I_eq] at hh; exact ⟨_, [], rfl, hh⟩)) h
  case ishl =>
    simp only [fv_di] at h
    exact fv_s (fs_III_ok rfl (fun a b K hh => by rw [f_I_eq] at hh; exact ⟨_, [], rfl, hh⟩)) h
  case ishr =>
    simp only [fv_di] at h
    exact fv_s (fs_III_ok rfl (fun a b K hh => by rw [f_I_eq] at hh; exact ⟨_, [], rfl, hh⟩)) h
  case iushr =>
    simp only [fv_di] at h
    exact fv_s (fs_III_ok rfl (fun a b K hh => by rw [f_I_eq] at hh; exact ⟨_, [], rfl, hh⟩)) h
  case land =>
    simp only [fv_di] at h
    exact fv_s (fs_JJJ_ok rfl (fun a b K hh => by rw [f_I_eq] at hh; exact ⟨_, [], rfl, hh⟩)) h
  case lor =>
    simp only [fv_di] at h
    exact fv_s (fs_JJJ_ok rfl (fun a b K hh => by rw [f_I_eq] at hh; exact ⟨_, [], rfl, hh⟩)) h
  case lxor =>
    simp only [fv_di] at h
    exact fv_s (fs_JJJ_ok rfl (fun a b K hh => by rw [f_I_eq] at hh; exact ⟨_, [], rfl, hh⟩)) h
  case lshl =>
    simp only [fv_di] at h
    exact fv_s (fs_JIJ_ok rfl (fun a b K hh => by rw [f_I_eq] at hh; exact ⟨_, [], rfl, hh⟩)) h
  case lshr =>
    simp only [fv_di] at h
    exact fv_s (fs_JIJ_ok rfl (fun a b K hh => by rw [f_I_eq] at hh; exact ⟨_, [], rfl, hh⟩)) h
  case lushr =>
    simp only [fv_di] at h
    exact fv_s (fs_JIJ_ok rfl (fun a b K hh => by rw [f_I_eq] at hh; exact ⟨_, [], rfl, hh⟩)) h
  case idiv =>
    simp only [fv_di] at h
    exact fv_s (fs_III_ok rfl (fun a b K hh => by
      obtain ⟨h1, hh⟩ := f_if_ok hh
      obtain ⟨h2, hh⟩ := f_if_ok hh
      obtain ⟨h3, hh⟩ := f_if_ok hh
      rw [f_I_eq] at hh
      rw [f_wz_eq] at hh
      refine ⟨_, [], ?_, hh⟩
      show ((if ev_w b = 0 then none else some (eI (ev_w (Int.tdiv (ev_w a) (ev_w b))))).map fun w => (([] : List (Option eV)), [w])) = _
      rw [f_w_ok h1, f_w_ok h2, if_neg (f_nz_ok h3)]
      rfl)) h
  case irem =>
    simp only [fv_di] at h
    exact fv_s (fs_III_ok rfl (fun a b K hh => by
      obtain ⟨h1, hh⟩ := f_if_ok hh
      obtain ⟨h2, hh⟩ := f_if_ok hh
      obtain ⟨h3, hh⟩ := f_if_ok hh
      rw [f_I_eq] at hh
      skip
      refine ⟨_, [], ?_, hh⟩
      show ((if ev_w b = 0 then none else some (eI (Int.tmod (ev_w a) (ev_w b)))).map fun w => (([] : List (Option eV)), [w])) = _
      rw [f_w_ok h1, f_w_ok h2, if_neg (f_nz_ok h3)]
      rfl)) h
  case lcmp =>
    simp only [fv_di] at h
    exact fv_s (fs_JJI_ok rfl (fun a b K hh => by
      obtain ⟨h1, hh⟩ := f_if_ok hh
      obtain ⟨h2, hh⟩ := f_if_ok hh
      rw [f_cmp_g K] at hh
      refine ⟨_, [], ?_, hh⟩
      show some (([] : List (Option eV)), [eI (if ev_W a > ev_W b then 1 else if ev_W a = ev_W b then 0 else -1)]) = _
      rw [f_W_ok h1, f_W_ok h2]
      rcases f_cmp_ok a b (-1 : Int) 0 1 with ⟨q1, q2⟩ | ⟨q1, q2⟩ | ⟨q1, q2⟩
      · rw [q2, if_neg (by omega), if_neg (by omega)]
      · rw [q2, if_neg (by omega), if_pos q1]
      · rw [q2, if_pos q1])) h
  case ineg =>
    simp only [fv_di] at h
    exact fv_s (fs_uII_ok rfl (fun a K hh => by rw [f_I_eq] at hh; rw [f_wz_eq] at hh; exact ⟨_, [], rfl, hh⟩)) h
  case i2b =>
    simp only [fv_di] at h
    exact fv_s (fs_uII_ok rfl (fun a K hh => by rw [f_I_eq] at hh; exact ⟨_, [], rfl, hh⟩)) h
  case i2s =>
    simp only [fv_di] at h
    exact fv_s (fs_uII_ok rfl (fun a K hh => by rw [f_I_eq] at hh; exact ⟨_, [], rfl, hh⟩)) h
  case l2i =>
    simp only [fv_di] at h
    exact fv_s (fs_uJI_ok rfl (fun a K hh => by rw [f_wz_eq] at hh; exact ⟨_, [], rfl, hh⟩)) h
  case i2l =>
    simp only [fv_di] at h
    exact fv_s (fs_uIJ_ok rfl (fun a K hh => by
      obtain ⟨h1, hh⟩ := f_if_ok hh
      refine ⟨a, [], ?_, hh⟩
      show some (([] : List (Option eV)), [eJ (ev_w a)]) = _
      rw [f_w_ok h1])) h
  case dup =>
    simp only [fv_di] at h
    exact fv_s fs_dup_ok h
  case pop =>
    simp only [fv_di] at h
    exact fv_s fs_pop_ok h
  case ifCond c off =>
    simp only [fv_di] at h
    split at h
    · rename_i h0
      exact fv_j rfl (fj_if_ok h0.1 h0.2) h
    · exact f_none h
  case if_icmp c off =>
    simp only [fv_di] at h
    split at h
    · rename_i h0
      exact fv_j rfl (fj_ic_ok h0.1 h0.2) h
    · exact f_none h
  case goto off =>
    simp only [fv_di] at h
    split at h
    · rename_i h0
      exact fv_j rfl (fj_go_ok h0.1 h0.2) h
    · exact f_none h
  case ifnonnull off =>
    simp only [fv_di] at h
    split at h
    · rename_i h0
      exact fv_j rfl (fj_nn_ok h0.1 h0.2) h
    · exact f_none h
  case ifnull off =>
    simp only [fv_di] at h
    split at h
    · rename_i h0
      exact fv_j rfl (fj_nl_ok h0.1 h0.2) h
    · exact f_none h
  case getfield idx =>
    simp only [fv_di] at h
    split at h
    · exact fv_m rfl (fm_gf_ok pvI_ok0) h
    · exact fv_m rfl (fm_gf_ok pvI_ok1) h
    · exact fv_m rfl (fm_gf_ok pvJ_ok2) h
    · exact fv_m rfl (fm_gf_ok pvR_ok3) h
    · exact f_none h
  case putfield idx =>
    simp only [fv_di] at h
    split at h
    · exact fv_m rfl (fm_pf_ok qvI_ok0) h
    · exact fv_m rfl (fm_pf_ok qvZ_ok1) h
    · exact fv_m rfl (fm_pf_ok qvJ_ok2) h
    · exact fv_m rfl (fm_pf_ok qvR_ok3) h
    · exact f_none h
  case iaload =>
    simp only [fv_di] at h
    exact fv_m rfl fm_iaload_ok h
  case laload =>
    simp only [fv_di] at h
    exact fv_m rfl fm_laload_ok h
  case iastore =>
    simp only [fv_di] at h
    exact fv_m rfl fm_iastore_ok h
  case lastore =>
    simp only [fv_di] at h
    exact fv_m rfl fm_lastore_ok h
  case arraylength =>
    simp only [fv_di] at h
    exact fv_m rfl fm_len_ok h
  case new idx =>
    simp only [fv_di] at h
    exact fv_m rfl fm_new_ok h
  case newarray ty =>
    simp only [fv_di] at h
    exact fv_m rfl fm_na_ok h
  case getstatic idx =>
    simp only [fv_di] at h
    exact fv_m rfl (fm_c_ok (fun _ _ _ => rfl)) h
  case ldc idx =>
    simp only [fv_di] at h
    split at h
    · rename_i h0
      exact fv_m rfl (fm_c_ok (fun _ _ _ => by simp only [sv_m]; rw [if_pos h0])) h
    · exact f_none h
  case ldc_w idx =>
    simp only [fv_di] at h
    split at h
    · rename_i h0
      exact fv_m rfl (fm_c_ok (fun _ _ _ => by simp only [sv_m]; rw [if_pos h0])) h
    · exact f_none h
  case ldc2_w idx =>
    simp only [fv_di] at h
    split at h
    · rename_i h0
      exact fv_m rfl (fm_c_ok (fun _ _ _ => by simp only [sv_m]; rw [if_pos h0])) h
    · exact f_none h
  case invokestatic idx =>
    simp only [fv_di] at h
    split at h
    · rename_i h0
      obtain ⟨h0, h1⟩ := h0
      subst h0
      exact fv_q rfl (by decide) (fq_s_ok h1) h
    · exact f_none h
  case invokevirtual idx =>
    simp only [fv_di] at h
    split at h
    · rename_i h0
      obtain ⟨h0, h1⟩ := h0
      subst h0
      exact fv_q rfl (by decide) (fq_v_ok h1) h
    · exact f_none h
  case invokespecial idx =>
    simp only [fv_di] at h
    split at h
    · rename_i h0
      obtain ⟨h0, h1⟩ := h0
      subst h0
      exact fv_q rfl (by decide) (fq_i_ok h1) h
    · split at h
      · rename_i h0
        subst h0
        obtain ⟨s, h1, h2⟩ := fq_o_ok (idx := idx) h
        exact fv_oo rfl h1 h2
      · exact f_none h
  case return_ =>
    simp only [fv_di] at h
    split at h
    · rename_i h0
      exact fv_r rfl (fr_0_ok h0) h
    · exact f_none h
  case ireturn =>
    simp only [fv_di] at h
    split at h
    · rename_i h0
      refine fv_r rfl (fr_1_ok (q := f_t0) fun B v hv => ?_) h
      show (if (dt_pl y).2.1 = 1 ∧ sv_ty v = 0 then some (some v) else _) = _
      rw [if_pos ⟨h0, f_t0_ok hv⟩]
    · rename_i h9
      split at h
      · rename_i h0
        refine fv_r rfl (fr_1_ok (q := f_z) fun B v hv => ?_) h
        obtain ⟨m, rfl, hm⟩ := f_z_ok hv
        unfold sv_rt
        dsimp only
        rw [if_neg (fun q => h9 q.1), if_pos h0, sv_qv1_ok hm]
      · exact f_none h
  case lreturn =>
    simp only [fv_di] at h
    split at h
    · rename_i h0
      refine fv_r rfl (fr_1_ok (q := f_t1) fun B v hv => ?_) h
      show (if (dt_pl y).2.1 = 3 ∧ sv_ty v = 1 then some (some v) else _) = _
      rw [if_pos ⟨h0, f_t1_ok hv⟩]
    · exact f_none h
  case areturn =>
    simp only [fv_di] at h
    split at h
    · rename_i h0
      refine fv_r rfl (fr_1_ok (q := f_r) fun B v hv => ?_) h
      obtain ⟨m, rfl⟩ := f_r_ok hv
      show (if (dt_pl y).2.1 = 5 then some (some (Sum.inl (eR m) : sV)) else _) = _
      rw [if_pos h0]
    · exact f_none h
  all_goals exact f_none h
/-- a rule: at a place, what can come behind a longer way -/
abbrev sR : Type := sB → sSt → Option (List (sB × sSt))
noncomputable def fv_row (R : Nat → Nat → Option sR) (sg : sG) (y pc : Nat) : fC × Unit := @Option.rec sR (fun _ => fC × Unit) (@Prod.rec Nat (Instr × Nat × (Nat × Nat × Nat × Nat) × Int) (fun _ => fC × Unit) (fun p q => @Bool.rec (fun _ => fC × Unit) (f_no, ()) (fv_di sg y p q.2.1 q.2.2.1.1 q.2.2.1.2.1 q.2.2.1.2.2.1 q.2.2.2 q.1) (Nat.beq p pc)) ((dt_co y).get pc)) (fun _ => (f_no, ())) (R y pc)
theorem fv_row_ok {R : Nat → Nat → Option sR} {sg : sG} {rc rs : Nat} {B : sB} {y pc d : Nat} {lv : List (Option sV)} {st : List sV} {F : List sFr} {M : sM} {Q : fK} (h : (fv_row R sg y pc).1 d lv st F M Q false = true) : fv_nx sg rc rs B (d, (y, pc, lv, st), F, M) ((dt_co y).get pc) Q := by
  unfold fv_row at h
  cases hR : R y pc with
  | some r => rw [hR] at h; exact f_none h
  | none =>
    rw [hR] at h
    generalize (dt_co y).get pc = q at h
    obtain ⟨p, i, n, ⟨a, b, t, pl⟩, x⟩ := q
    dsimp only at h
    cases hb : Nat.beq p pc with
    | false => rw [hb] at h; exact f_none h
    | true =>
      rw [hb] at h
      have hb := Nat.eq_of_beq_eq_true hb
      subst hb
      exact fv_di_ok h
noncomputable def fv_ap (Q : fK) (S : sSt) : Bool := Q S.1 S.2.1.1 S.2.1.2.1 S.2.1.2.2.1 S.2.1.2.2.2 S.2.2.1 S.2.2.2
noncomputable def fv_al (k : sB → sSt → Bool) (l : List (sB × sSt)) : Bool := @List.rec (sB × sSt) (fun _ => Bool) true (fun z _ ih => @Bool.rec (fun _ => Bool) false ih (k z.1 z.2)) l
theorem fv_al_ok {k : sB → sSt → Bool} {l : List (sB × sSt)} (h : fv_al k l = true) : ∀ z ∈ l, k z.1 z.2 = true := by
  induction l with
  | nil =>
    intro z hz
    cases hz
  | cons w l ih =>
    have h : @Bool.rec (fun _ => Bool) false (fv_al k l) (k w.1 w.2) = true := h
    cases hw : k w.1 w.2 with
    | false => rw [hw] at h; cases h
    | true =>
      rw [hw] at h
      intro z hz
      rcases List.mem_cons.mp hz with rfl | hz
      · exact hw
      · exact ih h z hz
/-- the run without the rows' own steps: by a rule, or by the step of the abstract evaluator -/
noncomputable def fv_slow (R : Nat → Nat → Option sR) (G : sR) (sg : sG) (rc rs : Nat) (k : sB → fK) (B : sB) (d y pc : Nat) (lv : List (Option sV)) (st : List sV) (F : List sFr) (M : sM) : Bool := @Option.rec (List (sB × sSt)) (fun _ => Bool) (@Option.rec (List (sB × sSt)) (fun _ => Bool) (@Option.rec (List (sB × sSt)) (fun _ => Bool) false (fun l => fv_al (fun B' S' => fz_S S' fun S'' => fv_ap (k B') S'') l) (sv_1 sg rc rs B (d, (y, pc, lv, st), F, M) ((dt_co y).get pc))) (fun l => fv_al (fun B' S' => fz_S S' fun S'' => fv_ap (k B') S'') l) (G B (d, (y, pc, lv, st), F, M))) (fun l => fv_al (fun B' S' => fv_ap (k B') S') l) (@Option.rec sR (fun _ => Option (List (sB × sSt))) none (fun r => r B (d, (y, pc, lv, st), F, M)) (R y pc))
/-- the run: every way that can come ends with the answer 1, or at a rule's end -/
noncomputable def fv (R : Nat → Nat → Option sR) (G : sR) (sg : sG) (rc rs : Nat) (n : Nat) : sB → fK := @Nat.rec (fun _ => sB → fK) (fun _ _ _ _ _ _ _ _ => false) (fun _ ih B d y pc lv st F M => @Prod.rec fC Unit (fun _ => Bool) (fun f _ => f d lv st F M (ih B) (fv_slow R G sg rc rs ih B d y pc lv st F M)) (fv_row R sg y pc)) n
/-- a state from which the law answers 1 within its room -/
def ex_fine (fg : eG) (rc rs : Nat) (E : eSt) : Prop := ∃ (m : Nat) (μ' : eM), ex fg m E = some (some (eI 1), μ') ∧ μ'.2.1.length ≤ rc ∧ μ'.2.2 ≤ rs
def sr_ok (sg : sG) (fg : eG) (rc rs : Nat) (ρ : Nat → Int) (r : sR) : Prop := ∀ (B : sB) (S : sSt) (l : List (sB × sSt)) (E : eSt), r B S = some l → sb_in ρ B → ss_r ρ S E → (∀ q ∈ l, ∀ E' : eSt, sb_in ρ q.1 → ss_r ρ q.2 E' → ex_fine fg rc rs E') → ex_fine fg rc rs E
theorem ex_fine_1 {fg : eG} {rc rs : Nat} {E E' : eSt} (h : ex_1 fg E = some (.inl E')) (h2 : ex_fine fg rc rs E') : ex_fine fg rc rs E := by
  obtain ⟨m, μ', h3, h4⟩ := h2
  refine ⟨m + 1, μ', ?_, h4⟩
  rw [ex, h]
  exact h3
theorem fr_z {f : fC} {d : Nat} {lv : List (Option sV)} {st : List sV} {F : List sFr} {M : sM} {Q : fK} {z : Bool} (h : f d lv st F M Q z = true) : z = true ∨ f d lv st F M Q false = true := by
  cases z with
  | true => exact Or.inl rfl
  | false => exact Or.inr h
theorem fv_ok {R : Nat → Nat → Option sR} {G : sR} {ρ : Nat → Int} {sg : sG} {fg : eG} {rc rs : Nat} (hg : sg_r ρ sg fg) (hR : ∀ y pc r, R y pc = some r → sr_ok sg fg rc rs ρ r) (hG : sr_ok sg fg rc rs ρ G) : ∀ (n : Nat) (B : sB) (S : sSt) (E : eSt), fv_ap (fv R G sg rc rs n B) S = true → sb_in ρ B → ss_r ρ S E → ex_fine fg rc rs E := by
  intro n
  induction n with
  | zero =>
    intro B S E h
    cases h
  | succ n ih =>
    intro B S E h hB hS
    have step : ∀ l, sv_1 sg rc rs B S ((dt_co S.2.1.1).get S.2.1.2.1) = some l → (∀ z ∈ l, fv_ap (fv R G sg rc rs n z.1) z.2 = true) → ex_fine fg rc rs E := by
      intro l hl hall
      rcases sv_1_ok hg hB hS hl with ⟨μ', h1, h2, h3⟩ | ⟨q, hq, h1, h2⟩
      · refine ⟨1, μ', ?_, h2, h3⟩
        rw [ex, h1]
      · rcases h2 with h2 | ⟨E', h2, h3⟩
        · exact ih _ _ _ (hall q hq) h1 h2
        · exact ex_fine_1 h2 (ih _ _ _ (hall q hq) h1 h3)
    obtain ⟨d, ⟨y, pc, lv, st⟩, F, M⟩ := S
    have h : (fv_row R sg y pc).1 d lv st F M (fv R G sg rc rs n B) (fv_slow R G sg rc rs (fv R G sg rc rs n) B d y pc lv st F M) = true := h
    rcases fr_z h with hs | hf
    · unfold fv_slow at hs
      have old : @Option.rec (List (sB × sSt)) (fun _ => Bool) false (fun l => fv_al (fun B' S' => fz_S S' fun S'' => fv_ap (fv R G sg rc rs n B') S'') l) (sv_1 sg rc rs B (d, (y, pc, lv, st), F, M) ((dt_co y).get pc)) = true → ex_fine fg rc rs E := by
        intro ho
        cases hl : sv_1 sg rc rs B (d, (y, pc, lv, st), F, M) ((dt_co y).get pc) with
        | none => rw [hl] at ho; cases ho
        | some l =>
          rw [hl] at ho
          refine step l hl (fun z hz => ?_)
          have h9 := fv_al_ok ho z hz
          rw [fz_S_eq] at h9
          exact h9
      have old2 : @Option.rec (List (sB × sSt)) (fun _ => Bool) (@Option.rec (List (sB × sSt)) (fun _ => Bool) false (fun l => fv_al (fun B' S' => fz_S S' fun S'' => fv_ap (fv R G sg rc rs n B') S'') l) (sv_1 sg rc rs B (d, (y, pc, lv, st), F, M) ((dt_co y).get pc))) (fun l => fv_al (fun B' S' => fz_S S' fun S'' => fv_ap (fv R G sg rc rs n B') S'') l) (G B (d, (y, pc, lv, st), F, M)) = true → ex_fine fg rc rs E := by
        intro ho
        cases hl : G B (d, (y, pc, lv, st), F, M) with
        | none => rw [hl] at ho; exact old ho
        | some l =>
          rw [hl] at ho
          refine hG B _ l E hl hB hS (fun q hq E' h1 h2 => ?_)
          have h9 := fv_al_ok ho q hq
          rw [fz_S_eq] at h9
          exact ih q.1 q.2 E' h9 h1 h2
      cases hr : R y pc with
      | none => rw [hr] at hs; exact old2 hs
      | some r =>
        rw [hr] at hs
        dsimp only at hs
        cases hl : r B (d, (y, pc, lv, st), F, M) with
        | none => rw [hl] at hs; exact old2 hs
        | some l =>
          rw [hl] at hs
          exact hR y pc r hr B _ l E hl hB hS (fun q hq E' h1 h2 => ih q.1 q.2 E' (fv_al_ok hs q hq) h1 h2)
    · obtain ⟨d', y', pc', lv', st', F', M', h1, h2⟩ := fv_row_ok (rc := rc) (rs := rs) (B := B) hf
      exact step _ h1 (fun z hz => by rw [List.mem_singleton.mp hz]; exact h2)
