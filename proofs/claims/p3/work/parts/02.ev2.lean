def ev_bII (g : Int → Int → Option eV) (lv : List (Option eV)) (st : List eV) : Option (List (Option eV) × List eV) := match st with
  | .inl (.inl y) :: .inl (.inl x) :: r => (g x y).map fun w => (lv, w :: r)
  | _ => none
theorem ev_bII_ok {g : Int → Int → Option eV} {lv lv' : List (Option eV)} {st st' : List eV} (h : ev_bII g lv st = some (lv', st')) : ∃ (x y : Int) (r : List eV) (w : eV), st = eI y :: eI x :: r ∧ g x y = some w ∧ lv = lv' ∧ w :: r = st' := by
  unfold ev_bII at h
  split at h
  · rename_i y x r
    cases hg : g x y with
    | none => rw [hg] at h; cases h
    | some w =>
      rw [hg] at h
      cases h
      exact ⟨x, y, r, w, rfl, hg, rfl, rfl⟩
  · cases h
def ev_bJJ (g : Int → Int → Option eV) (lv : List (Option eV)) (st : List eV) : Option (List (Option eV) × List eV) := match st with
  | .inl (.inr y) :: .inl (.inr x) :: r => (g x y).map fun w => (lv, w :: r)
  | _ => none
theorem ev_bJJ_ok {g : Int → Int → Option eV} {lv lv' : List (Option eV)} {st st' : List eV} (h : ev_bJJ g lv st = some (lv', st')) : ∃ (x y : Int) (r : List eV) (w : eV), st = eJ y :: eJ x :: r ∧ g x y = some w ∧ lv = lv' ∧ w :: r = st' := by
  unfold ev_bJJ at h
  split at h
  · rename_i y x r
    cases hg : g x y with
    | none => rw [hg] at h; cases h
    | some w =>
      rw [hg] at h
      cases h
      exact ⟨x, y, r, w, rfl, hg, rfl, rfl⟩
  · cases h
def ev_bJI (g : Int → Int → Option eV) (lv : List (Option eV)) (st : List eV) : Option (List (Option eV) × List eV) := match st with
  | .inl (.inl y) :: .inl (.inr x) :: r => (g x y).map fun w => (lv, w :: r)
  | _ => none
theorem ev_bJI_ok {g : Int → Int → Option eV} {lv lv' : List (Option eV)} {st st' : List eV} (h : ev_bJI g lv st = some (lv', st')) : ∃ (x y : Int) (r : List eV) (w : eV), st = eI y :: eJ x :: r ∧ g x y = some w ∧ lv = lv' ∧ w :: r = st' := by
  unfold ev_bJI at h
  split at h
  · rename_i y x r
    cases hg : g x y with
    | none => rw [hg] at h; cases h
    | some w =>
      rw [hg] at h
      cases h
      exact ⟨x, y, r, w, rfl, hg, rfl, rfl⟩
  · cases h
def ev_bDD (g : UInt64 → UInt64 → Option eV) (lv : List (Option eV)) (st : List eV) : Option (List (Option eV) × List eV) := match st with
  | .inr (.inl (.inl y)) :: .inr (.inl (.inl x)) :: r => (g x y).map fun w => (lv, w :: r)
  | _ => none
theorem ev_bDD_ok {g : UInt64 → UInt64 → Option eV} {lv lv' : List (Option eV)} {st st' : List eV} (h : ev_bDD g lv st = some (lv', st')) : ∃ (x y : UInt64) (r : List eV) (w : eV), st = eD y :: eD x :: r ∧ g x y = some w ∧ lv = lv' ∧ w :: r = st' := by
  unfold ev_bDD at h
  split at h
  · rename_i y x r
    cases hg : g x y with
    | none => rw [hg] at h; cases h
    | some w =>
      rw [hg] at h
      cases h
      exact ⟨x, y, r, w, rfl, hg, rfl, rfl⟩
  · cases h
def ev_bFF (g : UInt32 → UInt32 → Option eV) (lv : List (Option eV)) (st : List eV) : Option (List (Option eV) × List eV) := match st with
  | .inr (.inl (.inr y)) :: .inr (.inl (.inr x)) :: r => (g x y).map fun w => (lv, w :: r)
  | _ => none
theorem ev_bFF_ok {g : UInt32 → UInt32 → Option eV} {lv lv' : List (Option eV)} {st st' : List eV} (h : ev_bFF g lv st = some (lv', st')) : ∃ (x y : UInt32) (r : List eV) (w : eV), st = eF y :: eF x :: r ∧ g x y = some w ∧ lv = lv' ∧ w :: r = st' := by
  unfold ev_bFF at h
  split at h
  · rename_i y x r
    cases hg : g x y with
    | none => rw [hg] at h; cases h
    | some w =>
      rw [hg] at h
      cases h
      exact ⟨x, y, r, w, rfl, hg, rfl, rfl⟩
  · cases h
def ev_uI (g : Int → Option eV) (lv : List (Option eV)) (st : List eV) : Option (List (Option eV) × List eV) := match st with
  | .inl (.inl x) :: r => (g x).map fun w => (lv, w :: r)
  | _ => none
theorem ev_uI_ok {g : Int → Option eV} {lv lv' : List (Option eV)} {st st' : List eV} (h : ev_uI g lv st = some (lv', st')) : ∃ (x : Int) (r : List eV) (w : eV), st = eI x :: r ∧ g x = some w ∧ lv = lv' ∧ w :: r = st' := by
  unfold ev_uI at h
  split at h
  · rename_i x r
    cases hg : g x with
    | none => rw [hg] at h; cases h
    | some w =>
      rw [hg] at h
      cases h
      exact ⟨x, r, w, rfl, hg, rfl, rfl⟩
  · cases h
def ev_uJ (g : Int → Option eV) (lv : List (Option eV)) (st : List eV) : Option (List (Option eV) × List eV) := match st with
  | .inl (.inr x) :: r => (g x).map fun w => (lv, w :: r)
  | _ => none
theorem ev_uJ_ok {g : Int → Option eV} {lv lv' : List (Option eV)} {st st' : List eV} (h : ev_uJ g lv st = some (lv', st')) : ∃ (x : Int) (r : List eV) (w : eV), st = eJ x :: r ∧ g x = some w ∧ lv = lv' ∧ w :: r = st' := by
  unfold ev_uJ at h
  split at h
  · rename_i x r
    cases hg : g x with
    | none => rw [hg] at h; cases h
    | some w =>
      rw [hg] at h
      cases h
      exact ⟨x, r, w, rfl, hg, rfl, rfl⟩
  · cases h
def ev_uD (g : UInt64 → Option eV) (lv : List (Option eV)) (st : List eV) : Option (List (Option eV) × List eV) := match st with
  | .inr (.inl (.inl x)) :: r => (g x).map fun w => (lv, w :: r)
  | _ => none
theorem ev_uD_ok {g : UInt64 → Option eV} {lv lv' : List (Option eV)} {st st' : List eV} (h : ev_uD g lv st = some (lv', st')) : ∃ (x : UInt64) (r : List eV) (w : eV), st = eD x :: r ∧ g x = some w ∧ lv = lv' ∧ w :: r = st' := by
  unfold ev_uD at h
  split at h
  · rename_i x r
    cases hg : g x with
    | none => rw [hg] at h; cases h
    | some w =>
      rw [hg] at h
      cases h
      exact ⟨x, r, w, rfl, hg, rfl, rfl⟩
  · cases h
def ev_uF (g : UInt32 → Option eV) (lv : List (Option eV)) (st : List eV) : Option (List (Option eV) × List eV) := match st with
  | .inr (.inl (.inr x)) :: r => (g x).map fun w => (lv, w :: r)
  | _ => none
theorem ev_uF_ok {g : UInt32 → Option eV} {lv lv' : List (Option eV)} {st st' : List eV} (h : ev_uF g lv st = some (lv', st')) : ∃ (x : UInt32) (r : List eV) (w : eV), st = eF x :: r ∧ g x = some w ∧ lv = lv' ∧ w :: r = st' := by
  unfold ev_uF at h
  split at h
  · rename_i x r
    cases hg : g x with
    | none => rw [hg] at h; cases h
    | some w =>
      rw [hg] at h
      cases h
      exact ⟨x, r, w, rfl, hg, rfl, rfl⟩
  · cases h
def ev_ldI (lv : List (Option eV)) (k : Nat) (st : List eV) : Option (List (Option eV) × List eV) := match lv[k]? with
  | some (some (.inl (.inl x))) => some (lv, eI x :: st)
  | _ => none
theorem ev_ldI_ok {lv lv' : List (Option eV)} {k : Nat} {st st' : List eV} (h : ev_ldI lv k st = some (lv', st')) : ∃ x : Int, lv[k]? = some (some (eI x)) ∧ lv = lv' ∧ eI x :: st = st' := by
  unfold ev_ldI at h
  split at h
  · rename_i x hx
    cases h
    exact ⟨x, hx, rfl, rfl⟩
  · cases h
def ev_ldJ (lv : List (Option eV)) (k : Nat) (st : List eV) : Option (List (Option eV) × List eV) := match lv[k]? with
  | some (some (.inl (.inr x))) => some (lv, eJ x :: st)
  | _ => none
theorem ev_ldJ_ok {lv lv' : List (Option eV)} {k : Nat} {st st' : List eV} (h : ev_ldJ lv k st = some (lv', st')) : ∃ x : Int, lv[k]? = some (some (eJ x)) ∧ lv = lv' ∧ eJ x :: st = st' := by
  unfold ev_ldJ at h
  split at h
  · rename_i x hx
    cases h
    exact ⟨x, hx, rfl, rfl⟩
  · cases h
def ev_ldD (lv : List (Option eV)) (k : Nat) (st : List eV) : Option (List (Option eV) × List eV) := match lv[k]? with
  | some (some (.inr (.inl (.inl x)))) => some (lv, eD x :: st)
  | _ => none
theorem ev_ldD_ok {lv lv' : List (Option eV)} {k : Nat} {st st' : List eV} (h : ev_ldD lv k st = some (lv', st')) : ∃ x : UInt64, lv[k]? = some (some (eD x)) ∧ lv = lv' ∧ eD x :: st = st' := by
  unfold ev_ldD at h
  split at h
  · rename_i x hx
    cases h
    exact ⟨x, hx, rfl, rfl⟩
  · cases h
def ev_ldF (lv : List (Option eV)) (k : Nat) (st : List eV) : Option (List (Option eV) × List eV) := match lv[k]? with
  | some (some (.inr (.inl (.inr x)))) => some (lv, eF x :: st)
  | _ => none
theorem ev_ldF_ok {lv lv' : List (Option eV)} {k : Nat} {st st' : List eV} (h : ev_ldF lv k st = some (lv', st')) : ∃ x : UInt32, lv[k]? = some (some (eF x)) ∧ lv = lv' ∧ eF x :: st = st' := by
  unfold ev_ldF at h
  split at h
  · rename_i x hx
    cases h
    exact ⟨x, hx, rfl, rfl⟩
  · cases h
def ev_ldR (lv : List (Option eV)) (k : Nat) (st : List eV) : Option (List (Option eV) × List eV) := match lv[k]? with
  | some (some (.inr (.inr x))) => if 0 < x then some (lv, eR x :: st) else none
  | _ => none
theorem ev_ldR_ok {lv lv' : List (Option eV)} {k : Nat} {st st' : List eV} (h : ev_ldR lv k st = some (lv', st')) : ∃ x : Nat, lv[k]? = some (some (eR x)) ∧ 0 < x ∧ lv = lv' ∧ eR x :: st = st' := by
  unfold ev_ldR at h
  split at h
  · rename_i x hx
    split at h
    · rename_i h0
      cases h
      exact ⟨x, hx, h0, rfl, rfl⟩
    · cases h
  · cases h
def ev_srI (lv : List (Option eV)) (k : Nat) (st : List eV) : Option (List (Option eV) × List eV) := match st with
  | .inl (.inl x) :: r => if k < lv.length then some (ev_st1 lv k (eI x), r) else none
  | _ => none
theorem ev_srI_ok {lv lv' : List (Option eV)} {k : Nat} {st st' : List eV} (h : ev_srI lv k st = some (lv', st')) : ∃ (x : Int) (r : List eV), st = eI x :: r ∧ (k < lv.length) ∧ ev_st1 lv k (eI x) = lv' ∧ r = st' := by
  unfold ev_srI at h
  split at h
  · rename_i x r
    split at h
    · rename_i h0
      cases h
      exact ⟨x, _, rfl, h0, rfl, rfl⟩
    · cases h
  · cases h
def ev_srJ (lv : List (Option eV)) (k : Nat) (st : List eV) : Option (List (Option eV) × List eV) := match st with
  | .inl (.inr x) :: r => if k + 1 < lv.length then some (ev_st2 lv k (eJ x), r) else none
  | _ => none
theorem ev_srJ_ok {lv lv' : List (Option eV)} {k : Nat} {st st' : List eV} (h : ev_srJ lv k st = some (lv', st')) : ∃ (x : Int) (r : List eV), st = eJ x :: r ∧ (k + 1 < lv.length) ∧ ev_st2 lv k (eJ x) = lv' ∧ r = st' := by
  unfold ev_srJ at h
  split at h
  · rename_i x r
    split at h
    · rename_i h0
      cases h
      exact ⟨x, _, rfl, h0, rfl, rfl⟩
    · cases h
  · cases h
def ev_srD (lv : List (Option eV)) (k : Nat) (st : List eV) : Option (List (Option eV) × List eV) := match st with
  | .inr (.inl (.inl x)) :: r => if k + 1 < lv.length then some (ev_st2 lv k (eD x), r) else none
  | _ => none
theorem ev_srD_ok {lv lv' : List (Option eV)} {k : Nat} {st st' : List eV} (h : ev_srD lv k st = some (lv', st')) : ∃ (x : UInt64) (r : List eV), st = eD x :: r ∧ (k + 1 < lv.length) ∧ ev_st2 lv k (eD x) = lv' ∧ r = st' := by
  unfold ev_srD at h
  split at h
  · rename_i x r
    split at h
    · rename_i h0
      cases h
      exact ⟨x, _, rfl, h0, rfl, rfl⟩
    · cases h
  · cases h
def ev_srR (lv : List (Option eV)) (k : Nat) (st : List eV) : Option (List (Option eV) × List eV) := match st with
  | .inr (.inr x) :: r => if k < lv.length ∧ 0 < x then some (ev_st1 lv k (eR x), r) else none
  | _ => none
theorem ev_srR_ok {lv lv' : List (Option eV)} {k : Nat} {st st' : List eV} (h : ev_srR lv k st = some (lv', st')) : ∃ (x : Nat) (r : List eV), st = eR x :: r ∧ (k < lv.length ∧ 0 < x) ∧ ev_st1 lv k (eR x) = lv' ∧ r = st' := by
  unfold ev_srR at h
  split at h
  · rename_i x r
    split at h
    · rename_i h0
      cases h
      exact ⟨x, _, rfl, h0, rfl, rfl⟩
    · cases h
  · cases h
def ev_inc (lv : List (Option eV)) (k : Nat) (n : Int) (st : List eV) : Option (List (Option eV) × List eV) := match lv[k]? with
  | some (some (.inl (.inl x))) => some (ev_st1 lv k (eI (ev_w (x + n))), st)
  | _ => none
theorem ev_inc_ok {lv lv' : List (Option eV)} {k : Nat} {n : Int} {st st' : List eV} (h : ev_inc lv k n st = some (lv', st')) : ∃ x : Int, lv[k]? = some (some (eI x)) ∧ ev_st1 lv k (eI (ev_w (x + n))) = lv' ∧ st = st' := by
  unfold ev_inc at h
  split at h
  · rename_i x hx
    cases h
    exact ⟨x, hx, rfl, rfl⟩
  · cases h
def ev_stk (n : Nat) (lv : List (Option eV)) (st : List eV) : Option (List (Option eV) × List eV) := match n, st with
  | 0, v :: r => if ev_cat v = 1 then some (lv, v :: v :: r) else none
  | 1, v :: w :: r => if ev_cat v = 1 ∧ ev_cat w = 1 then some (lv, v :: w :: v :: w :: r) else none
  | 2, v :: r => if ev_cat v = 1 then some (lv, r) else none
  | _, _ => none
/-- a value of two places goes -/
def ev_p2 (lv : List (Option eV)) (st : List eV) : Option (List (Option eV) × List eV) := match st with
  | v :: r => if ev_cat v = 2 then some (lv, r) else none
  | _ => none
def ev_len : Instr → Nat
  | .bipush _ | .iload _ | .lload _ | .fload _ | .dload _ | .aload _ | .istore _ | .lstore _ | .fstore _ | .dstore _ | .astore _ | .ldc _ | .newarray _ => 2
  | .sipush _ | .iinc _ _ | .ldc_w _ | .ldc2_w _ | .getfield _ | .putfield _ | .getstatic _ | .putstatic _ | .invokevirtual _ | .invokespecial _ | .invokestatic _ | .new _ | .goto _ | .ifCond _ _ | .if_icmp _ _ | .ifnull _ | .ifnonnull _ => 3
  | _ => 1
theorem ev_idiv_ok (x y : Int) : Int32.ofInt (Int.tdiv (ev_w x) (ev_w y)) = Int32.ofInt x / Int32.ofInt y := by
  rw [← ev_w_ok, ← ev_w_ok, ← Int32.toInt_inj, Int32.toInt_div, Int32.toInt_ofInt]
theorem ev_irem_ok (x y : Int) : Int32.ofInt (Int.tmod (ev_w x) (ev_w y)) = Int32.ofInt x - Int32.ofInt x / Int32.ofInt y * Int32.ofInt y := by
  rw [← ev_w_ok, ← ev_w_ok, Int.tmod_def, Int32.ofInt_sub, Int32.ofInt_mul, Int32.ofInt_toInt, Int32.ofInt_toInt, Int32.mul_comm]
  congr 2
  rw [← Int32.toInt_inj, Int32.toInt_div, Int32.toInt_ofInt]
theorem ev_lcmp_ok (x y : Int) : lg_cmp (Int64.ofInt x) (Int64.ofInt y) = Int32.ofInt (if ev_W x > ev_W y then 1 else if ev_W x = ev_W y then 0 else -1) := by
  unfold lg_cmp
  simp only [gt_iff_lt, ev_ltW, ev_eqW]
  split
  · rfl
  · split <;> rfl
theorem ev_i2l_ok (x : Int) : (Int32.ofInt x).toInt64 = Int64.ofInt (ev_w x) := by
  rw [← ev_w_ok, ← Int64.toInt_inj, Int32.toInt_toInt64, Int64.toInt_ofInt]
  exact (Int32.toInt_bmod_18446744073709551616 _).symm
theorem ev_i2b_ok (x : Int) : (Int32.ofInt x).toInt8.toInt32 = Int32.ofInt ((x + 128) % 256 - 128) := by
  rw [← Int32.toInt_inj, Int8.toInt_toInt32, Int32.toInt8_ofInt, Int8.toInt_ofInt, ev_w_ok]
  show x.bmod 256 = _
  rw [ev_w_in (by omega) (by omega), Int.bmod_def]
  split <;> omega
theorem ev_i2s_ok (x : Int) : (Int32.ofInt x).toInt16.toInt32 = Int32.ofInt ((x + 32768) % 65536 - 32768) := by
  rw [← Int32.toInt_inj, Int16.toInt_toInt32, Int32.toInt16_ofInt, Int16.toInt_ofInt, ev_w_ok]
  show x.bmod 65536 = _
  rw [ev_w_in (by omega) (by omega), Int.bmod_def]
  split <;> omega
/-- the plain instructions: locals and stack alone -/
def ev_s (i : Instr) (lv : List (Option eV)) (st : List eV) : Option (List (Option eV) × List eV) := match i with
  | .iconst n => some (lv, eI n :: st)
  | .bipush n => if -128 ≤ n ∧ n ≤ 127 then some (lv, eI n :: st) else none
  | .sipush n => if -32768 ≤ n ∧ n ≤ 32767 then some (lv, eI n :: st) else none
  | .lconst n => some (lv, eJ (n.val : Int) :: st)
  | .fconst n => if n = 0 then some (lv, eF FP.fconst0 :: st) else none
  | .dconst n => if n = 1 then some (lv, eD FP.dconst1 :: st) else none
  | .iload k => ev_ldI lv k st
  | .iload_n k => ev_ldI lv k.val st
  | .lload k => ev_ldJ lv k st
  | .lload_n k => ev_ldJ lv k.val st
  | .fload k => ev_ldF lv k st
  | .fload_n k => ev_ldF lv k.val st
  | .dload k => ev_ldD lv k st
  | .dload_n k => ev_ldD lv k.val st
  | .aload k => ev_ldR lv k st
  | .aload_n k => ev_ldR lv k.val st
  | .istore k => ev_srI lv k st
  | .istore_n k => ev_srI lv k.val st
  | .lstore k => ev_srJ lv k st
  | .lstore_n k => ev_srJ lv k.val st
  | .dstore k => ev_srD lv k st
  | .dstore_n k => ev_srD lv k.val st
  | .astore k => ev_srR lv k st
  | .astore_n k => ev_srR lv k.val st
  | .iinc k n => ev_inc lv k n st
  | .iadd => ev_bII (fun x y => some (eI (ev_w (x + y)))) lv st
  | .isub => ev_bII (fun x y => some (eI (ev_w (x - y)))) lv st
  | .imul => ev_bII (fun x y => some (eI (ev_w (x * y)))) lv st
  | .ladd => ev_bJJ (fun x y => some (eJ (ev_W (x + y)))) lv st
  | .lsub => ev_bJJ (fun x y => some (eJ (ev_W (x - y)))) lv st
  | .lmul => ev_bJJ (fun x y => some (eJ (ev_W (x * y)))) lv st
  | .ineg => ev_uI (fun x => some (eI (ev_w (-x)))) lv st
  | .iand => ev_bII (fun x y => some (eI ((Int32.ofInt x &&& Int32.ofInt y).toInt))) lv st
  | .ior => ev_bII (fun x y => some (eI ((Int32.ofInt x ||| Int32.ofInt y).toInt))) lv st
  | .ixor => ev_bII (fun x y => some (eI ((Int32.ofInt x ^^^ Int32.ofInt y).toInt))) lv st
  | .ishl => ev_bII (fun x y => some (eI ((Int32.ofInt x <<< (Int32.ofInt y &&& 31)).toInt))) lv st
  | .ishr => ev_bII (fun x y => some (eI ((Int32.ofInt x >>> (Int32.ofInt y &&& 31)).toInt))) lv st
  | .iushr => ev_bII (fun x y => some (eI ((((Int32.ofInt x).toUInt32 >>> ((Int32.ofInt y).toUInt32 &&& Int32.toUInt32 31)).toInt32).toInt))) lv st
  | .land => ev_bJJ (fun x y => some (eJ ((Int64.ofInt x &&& Int64.ofInt y).toInt))) lv st
  | .lor => ev_bJJ (fun x y => some (eJ ((Int64.ofInt x ||| Int64.ofInt y).toInt))) lv st
  | .lxor => ev_bJJ (fun x y => some (eJ ((Int64.ofInt x ^^^ Int64.ofInt y).toInt))) lv st
  | .lshl => ev_bJI (fun x y => some (eJ ((Int64.ofInt x <<< ((Int32.ofInt y).toInt64 &&& 63)).toInt))) lv st
  | .lshr => ev_bJI (fun x y => some (eJ ((Int64.ofInt x >>> ((Int32.ofInt y).toInt64 &&& 63)).toInt))) lv st
  | .lushr => ev_bJI (fun x y => some (eJ ((((Int64.ofInt x).toUInt64 >>> ((Int32.ofInt y).toInt64.toUInt64 &&& Int64.toUInt64 63)).toInt64).toInt))) lv st
  | .idiv => ev_bII (fun x y => if ev_w y = 0 then none else some (eI (ev_w (Int.tdiv (ev_w x) (ev_w y))))) lv st
  | .irem => ev_bII (fun x y => if ev_w y = 0 then none else some (eI (Int.tmod (ev_w x) (ev_w y)))) lv st
  | .lcmp => ev_bJJ (fun x y => some (eI (if ev_W x > ev_W y then 1 else if ev_W x = ev_W y then 0 else -1))) lv st
  | .i2l => ev_uI (fun x => some (eJ (ev_w x))) lv st
  | .l2i => ev_uJ (fun x => some (eI (ev_w x))) lv st
  | .i2b => ev_uI (fun x => some (eI ((x + 128) % 256 - 128))) lv st
  | .i2s => ev_uI (fun x => some (eI ((x + 32768) % 65536 - 32768))) lv st
  | .i2d => ev_uI (fun x => some (eD (FP.i2d (Int32.ofInt x)))) lv st
  | .d2i => ev_uD (fun x => some (eI ((FP.d2i x).toInt))) lv st
  | .fneg => ev_uF (fun x => some (eF (FP.fneg x))) lv st
  | .fcmp o => ev_bFF (fun x y => some (eI (Op.cmpValue (FP.fcmp x y) o).toInt)) lv st
  | .dcmp o => ev_bDD (fun x y => some (eI (Op.cmpValue (FP.dcmp x y) o).toInt)) lv st
  | .dadd => ev_bDD (fun x y => if FP.dadd x y &&& 0x7fffffffffffffff ≤ 0x7ff0000000000000 then some (eD (FP.dadd x y)) else none) lv st
  | .dsub => ev_bDD (fun x y => if FP.dsub x y &&& 0x7fffffffffffffff ≤ 0x7ff0000000000000 then some (eD (FP.dsub x y)) else none) lv st
  | .dmul => ev_bDD (fun x y => if FP.dmul x y &&& 0x7fffffffffffffff ≤ 0x7ff0000000000000 then some (eD (FP.dmul x y)) else none) lv st
  | .ddiv => ev_bDD (fun x y => if FP.ddiv x y &&& 0x7fffffffffffffff ≤ 0x7ff0000000000000 then some (eD (FP.ddiv x y)) else none) lv st
  | .d2f => ev_uD (fun x => if FP.d2f x &&& 0x7fffffff ≤ 0x7f800000 then some (eF (FP.d2f x)) else none) lv st
  | .f2d => ev_uF (fun x => if FP.f2d x &&& 0x7fffffffffffffff ≤ 0x7ff0000000000000 then some (eD (FP.f2d x)) else none) lv st
  | .dup => ev_stk 0 lv st
  | .dup2 => ev_stk 1 lv st
  | .pop => ev_stk 2 lv st
  | .pop2 => ev_p2 lv st
  | _ => none
set_option maxHeartbeats 4000000 in
set_option maxRecDepth 20000 in
theorem ev_s_ok {p : Program} {l : Launch} {e : Env} {R : Room} {s : State} {m : MethodId} {args : Array Value} {below : List Frame} {meth : Method} {c : Code} {H : Heap} {locs : List Loc} {cells slots : Nat} {Q : State → Prop} {cc : ByteArray} {pc : Nat} {ls : Array Slot} {ad : Nat → Nat} {nL : Nat} (hx : p.tables.exec = Jvm.exec) (hb : c.code = cc) (i : Instr) (hdg : decode cc pc = .ok (i, ev_len i)) {lv lv' : List (Option eV)} {st st' : List eV} (hl : ev_LH ad ls nL lv) (h : ev_s i lv st = some (lv', st'))
    (kk : ∀ ls' : Array Slot, ev_LH ad ls' nL lv' → W p l e R s m args below meth c H locs cells slots Q (F0 m (pc + ev_len i) ls' (st'.map (ev_c ad)))) : W p l e R s m args below meth c H locs cells slots Q (F0 m pc ls (st.map (ev_c ad))) := by
  cases i
  case iconst n =>
    cases h
    exact lv_iconst (v := Int32.ofInt n) hx hb hdg rfl (kk ls hl)
  case bipush n =>
    simp only [ev_s] at h
    split at h
    · rename_i h0
      cases h
      exact lv_bipush (v := Int32.ofInt n) hx hb hdg (Int8.toInt32_ofInt h0.1 h0.2) (kk ls hl)
    · cases h
  case sipush n =>
    simp only [ev_s] at h
    split at h
    · rename_i h0
      cases h
      exact lv_sipush (v := Int32.ofInt n) hx hb hdg (Int16.toInt32_ofInt h0.1 h0.2) (kk ls hl)
    · cases h
  case lconst n =>
    cases h
    exact lv_lconst (v := Int64.ofInt (n.val : Int)) hx hb hdg (Int64.ofInt_eq_ofNat).symm (kk ls hl)
  case fconst n =>
    simp only [ev_s] at h
    split at h
    · rename_i h0
      subst h0
      cases h
      exact lv_fconst0 hx hb hdg (kk ls hl)
    · cases h
  case dconst n =>
    simp only [ev_s] at h
    split at h
    · rename_i h0
      subst h0
      cases h
      exact lv_dconst1 hx hb hdg (kk ls hl)
    · cases h
  case iload k =>
    obtain ⟨x, h1, rfl, rfl⟩ := ev_ldI_ok h
    exact lv_iload hx hb hdg (hl.2.2.2 _ _ h1) (kk ls hl)
  case iload_n k =>
    obtain ⟨x, h1, rfl, rfl⟩ := ev_ldI_ok h
    exact lv_iload_n hx hb hdg rfl (hl.2.2.2 _ _ h1) (kk ls hl)
  case lload k =>
    obtain ⟨x, h1, rfl, rfl⟩ := ev_ldJ_ok h
    exact lv_lload hx hb hdg (hl.2.2.2 _ _ h1) (kk ls hl)
  case lload_n k =>
    obtain ⟨x, h1, rfl, rfl⟩ := ev_ldJ_ok h
    exact lv_lload_n hx hb hdg rfl (hl.2.2.2 _ _ h1) (kk ls hl)
  case fload k =>
    obtain ⟨x, h1, rfl, rfl⟩ := ev_ldF_ok h
    exact lv_fload hx hb hdg (hl.2.2.2 _ _ h1) (kk ls hl)
  case fload_n k =>
    obtain ⟨x, h1, rfl, rfl⟩ := ev_ldF_ok h
    exact lv_fload_n hx hb hdg rfl (hl.2.2.2 _ _ h1) (kk ls hl)
  case dload k =>
    obtain ⟨x, h1, rfl, rfl⟩ := ev_ldD_ok h
    exact lv_dload hx hb hdg (hl.2.2.2 _ _ h1) (kk ls hl)
  case dload_n k =>
    obtain ⟨x, h1, rfl, rfl⟩ := ev_ldD_ok h
    exact lv_dload_n hx hb hdg rfl (hl.2.2.2 _ _ h1) (kk ls hl)
  case aload k =>
    obtain ⟨x, h1, h0, rfl, rfl⟩ := ev_ldR_ok h
    obtain ⟨x, rfl⟩ : ∃ z, x = z + 1 := ⟨x - 1, by omega⟩
    exact lv_aload hx hb hdg (hl.2.2.2 _ _ h1) (kk ls hl)
  case aload_n k =>
    obtain ⟨x, h1, h0, rfl, rfl⟩ := ev_ldR_ok h
    obtain ⟨x, rfl⟩ : ∃ z, x = z + 1 := ⟨x - 1, by omega⟩
    exact lv_aload_n hx hb hdg rfl (hl.2.2.2 _ _ h1) (kk ls hl)
  case istore k =>
    obtain ⟨x, r, rfl, h0, rfl, rfl⟩ := ev_srI_ok h
    exact lv_istore hx hb hdg hl.has (by rw [← hl.2.1]; exact h0) rfl (fun ls hl2 => kk ls (ev_LH_st1 (v := eI x) hl.2.1 hl2))
  case istore_n k =>
    obtain ⟨x, r, rfl, h0, rfl, rfl⟩ := ev_srI_ok h
    exact lv_istore_n hx hb hdg rfl hl.has (by rw [← hl.2.1]; exact h0) rfl (fun ls hl2 => kk ls (ev_LH_st1 (v := eI x) hl.2.1 hl2))
  case lstore k =>
    obtain ⟨x, r, rfl, h0, rfl, rfl⟩ := ev_srJ_ok h
    exact lv_lstore hx hb hdg hl.has (by rw [← hl.2.1]; exact h0) rfl (fun ls hl2 => kk ls (ev_LH_st2 (v := eJ x) hl.2.1 hl2))
  case lstore_n k =>
    obtain ⟨x, r, rfl, h0, rfl, rfl⟩ := ev_srJ_ok h
    exact lv_lstore_n hx hb hdg rfl hl.has (by rw [← hl.2.1]; exact h0) rfl (fun ls hl2 => kk ls (ev_LH_st2 (v := eJ x) hl.2.1 hl2))
  case dstore k =>
    obtain ⟨x, r, rfl, h0, rfl, rfl⟩ := ev_srD_ok h
    exact lv_dstore hx hb hdg hl.has (by rw [← hl.2.1]; exact h0) rfl (fun ls hl2 => kk ls (ev_LH_st2 (v := eD x) hl.2.1 hl2))
  case dstore_n k =>
    obtain ⟨x, r, rfl, h0, rfl, rfl⟩ := ev_srD_ok h
    exact lv_dstore_n hx hb hdg rfl hl.has (by rw [← hl.2.1]; exact h0) rfl (fun ls hl2 => kk ls (ev_LH_st2 (v := eD x) hl.2.1 hl2))
  case astore k =>
    obtain ⟨x, r, rfl, h0, rfl, rfl⟩ := ev_srR_ok h
    obtain ⟨x, rfl⟩ : ∃ z, x = z + 1 := ⟨x - 1, by omega⟩
    exact lv_astore hx hb hdg hl.has (by rw [← hl.2.1]; exact h0.1) rfl (fun ls hl2 => kk ls (ev_LH_st1 (v := eR (x + 1)) hl.2.1 hl2))
  case astore_n k =>
    obtain ⟨x, r, rfl, h0, rfl, rfl⟩ := ev_srR_ok h
    obtain ⟨x, rfl⟩ : ∃ z, x = z + 1 := ⟨x - 1, by omega⟩
    exact lv_astore_n hx hb hdg rfl hl.has (by rw [← hl.2.1]; exact h0.1) rfl (fun ls hl2 => kk ls (ev_LH_st1 (v := eR (x + 1)) hl.2.1 hl2))
  case iinc k n =>
    obtain ⟨x, h1, rfl, rfl⟩ := ev_inc_ok h
    obtain ⟨q, h2⟩ := List.mem_iff_getElem?.mp (ev_sl_mem (ad := ad) h1)
    exact lv_iinc (v := Int32.ofInt (ev_w (x + n))) hx hb hdg hl.has h2 ((ev_ofw (x + n)).trans (Int32.ofInt_add x n)).symm (by rw [← hl.2.1]; exact (List.getElem?_eq_some_iff.mp h1).1) rfl (fun ls hl2 => kk ls (ev_LH_st1 (v := eI (ev_w (x + n))) hl.2.1 hl2))
  case iadd =>
    obtain ⟨x, y, r, w, rfl, hg, rfl, rfl⟩ := ev_bII_ok h
    cases hg
    exact lv_iadd hx hb hdg
      (by rw [← Int32.ofInt_add, ← ev_ofw (x + y)]; exact kk ls hl)
  case isub =>
    obtain ⟨x, y, r, w, rfl, hg, rfl, rfl⟩ := ev_bII_ok h
    cases hg
    exact lv_isub hx hb hdg
      (by rw [← Int32.ofInt_sub, ← ev_ofw (x - y)]; exact kk ls hl)
  case imul =>
    obtain ⟨x, y, r, w, rfl, hg, rfl, rfl⟩ := ev_bII_ok h
    cases hg
    exact lv_imul hx hb hdg
      (by rw [← Int32.ofInt_mul, ← ev_ofw (x * y)]; exact kk ls hl)
  case ladd =>
    obtain ⟨x, y, r, w, rfl, hg, rfl, rfl⟩ := ev_bJJ_ok h
    cases hg
    exact lv_ladd hx hb hdg
      (by rw [← Int64.ofInt_add, ← ev_ofW (x + y)]; exact kk ls hl)
  case lsub =>
    obtain ⟨x, y, r, w, rfl, hg, rfl, rfl⟩ := ev_bJJ_ok h
    cases hg
    exact lv_lsub hx hb hdg
      (by rw [← Int64.ofInt_sub, ← ev_ofW (x - y)]; exact kk ls hl)
  case lmul =>
    obtain ⟨x, y, r, w, rfl, hg, rfl, rfl⟩ := ev_bJJ_ok h
    cases hg
    exact lv_lmul hx hb hdg
      (by rw [← Int64.ofInt_mul, ← ev_ofW (x * y)]; exact kk ls hl)
  case ineg =>
    obtain ⟨x, r, w, rfl, hg, rfl, rfl⟩ := ev_uI_ok h
    cases hg
    exact lv_ineg hx hb hdg
      (by rw [← Int32.ofInt_neg, ← ev_ofw (-x)]; exact kk ls hl)
  case iand =>
    obtain ⟨x, y, r, w, rfl, hg, rfl, rfl⟩ := ev_bII_ok h
    cases hg
    exact lv_iand hx hb hdg
      (by rw [← Int32.ofInt_toInt (Int32.ofInt x &&& Int32.ofInt y)]; exact kk ls hl)
  case ior =>
    obtain ⟨x, y, r, w, rfl, hg, rfl, rfl⟩ := ev_bII_ok h
    cases hg
    exact lv_ior hx hb hdg
      (by rw [← Int32.ofInt_toInt (Int32.ofInt x ||| Int32.ofInt y)]; exact kk ls hl)
  case ixor =>
    obtain ⟨x, y, r, w, rfl, hg, rfl, rfl⟩ := ev_bII_ok h
    cases hg
    exact lv_ixor hx hb hdg
      (by rw [← Int32.ofInt_toInt (Int32.ofInt x ^^^ Int32.ofInt y)]; exact kk ls hl)
  case ishl =>
    obtain ⟨x, y, r, w, rfl, hg, rfl, rfl⟩ := ev_bII_ok h
    cases hg
    exact lv_ishl hx hb hdg
      (by rw [← Int32.ofInt_toInt (Int32.ofInt x <<< (Int32.ofInt y &&& 31))]; exact kk ls hl)
  case ishr =>
    obtain ⟨x, y, r, w, rfl, hg, rfl, rfl⟩ := ev_bII_ok h
    cases hg
    exact lv_ishr hx hb hdg
      (by rw [← Int32.ofInt_toInt (Int32.ofInt x >>> (Int32.ofInt y &&& 31))]; exact kk ls hl)
  case iushr =>
    obtain ⟨x, y, r, w, rfl, hg, rfl, rfl⟩ := ev_bII_ok h
    cases hg
    exact lv_iushr hx hb hdg rfl
      (by rw [← Int32.ofInt_toInt (((Int32.ofInt x).toUInt32 >>> ((Int32.ofInt y).toUInt32 &&& Int32.toUInt32 31)).toInt32)]; exact kk ls hl)
  case land =>
    obtain ⟨x, y, r, w, rfl, hg, rfl, rfl⟩ := ev_bJJ_ok h
    cases hg
    exact lv_land hx hb hdg
      (by rw [← Int64.ofInt_toInt (Int64.ofInt x &&& Int64.ofInt y)]; exact kk ls hl)
  case lor =>
    obtain ⟨x, y, r, w, rfl, hg, rfl, rfl⟩ := ev_bJJ_ok h
    cases hg
    exact lv_lor hx hb hdg
      (by rw [← Int64.ofInt_toInt (Int64.ofInt x ||| Int64.ofInt y)]; exact kk ls hl)
  case lxor =>
    obtain ⟨x, y, r, w, rfl, hg, rfl, rfl⟩ := ev_bJJ_ok h
    cases hg
    exact lv_lxor hx hb hdg
      (by rw [← Int64.ofInt_toInt (Int64.ofInt x ^^^ Int64.ofInt y)]; exact kk ls hl)
  case lshl =>
    obtain ⟨x, y, r, w, rfl, hg, rfl, rfl⟩ := ev_bJI_ok h
    cases hg
    exact lv_lshl hx hb hdg rfl
      (by rw [← Int64.ofInt_toInt (Int64.ofInt x <<< ((Int32.ofInt y).toInt64 &&& 63))]; exact kk ls hl)
  case lshr =>
    obtain ⟨x, y, r, w, rfl, hg, rfl, rfl⟩ := ev_bJI_ok h
    cases hg
    exact lv_lshr hx hb hdg rfl
      (by rw [← Int64.ofInt_toInt (Int64.ofInt x >>> ((Int32.ofInt y).toInt64 &&& 63))]; exact kk ls hl)
  case lushr =>
    obtain ⟨x, y, r, w, rfl, hg, rfl, rfl⟩ := ev_bJI_ok h
    cases hg
    exact lv_lushr hx hb hdg rfl
      (by rw [← Int64.ofInt_toInt (((Int64.ofInt x).toUInt64 >>> ((Int32.ofInt y).toInt64.toUInt64 &&& Int64.toUInt64 63)).toInt64)]; exact kk ls hl)
  case idiv =>
    obtain ⟨x, y, r, w, rfl, hg, rfl, rfl⟩ := ev_bII_ok h
    have hg : (if ev_w y = 0 then none else some (eI (ev_w (Int.tdiv (ev_w x) (ev_w y))))) = some w := hg
    split at hg
    · cases hg
    · rename_i h0
      cases hg
      exact lv_idiv hx hb hdg (fun q => h0 ((ev_eq0 y).mp q)) (by rw [← ev_idiv_ok x y, ← ev_ofw (Int.tdiv (ev_w x) (ev_w y))]; exact kk ls hl)
  case irem =>
    obtain ⟨x, y, r, w, rfl, hg, rfl, rfl⟩ := ev_bII_ok h
    have hg : (if ev_w y = 0 then none else some (eI (Int.tmod (ev_w x) (ev_w y)))) = some w := hg
    split at hg
    · cases hg
    · rename_i h0
      cases hg
      exact lv_irem hx hb hdg (fun q => h0 ((ev_eq0 y).mp q)) (by rw [← ev_irem_ok x y]; exact kk ls hl)
  case lcmp =>
    obtain ⟨x, y, r, w, rfl, hg, rfl, rfl⟩ := ev_bJJ_ok h
    cases hg
    exact W.lcmp hx hb hdg
      (by rw [ev_lcmp_ok x y]; exact kk ls hl)
  case i2l =>
    obtain ⟨x, r, w, rfl, hg, rfl, rfl⟩ := ev_uI_ok h
    cases hg
    exact lv_i2l (v := Int64.ofInt (ev_w x)) hx hb hdg (ev_i2l_ok x)
      (kk ls hl)
  case l2i =>
    obtain ⟨x, r, w, rfl, hg, rfl, rfl⟩ := ev_uJ_ok h
    cases hg
    exact lv_l2i (v := Int32.ofInt (ev_w x)) hx hb hdg (Int64.toInt32_ofInt.trans (ev_ofw x).symm)
      (kk ls hl)
  case i2b =>
    obtain ⟨x, r, w, rfl, hg, rfl, rfl⟩ := ev_uI_ok h
    cases hg
    exact lv_i2b (v := Int32.ofInt ((x + 128) % 256 - 128)) hx hb hdg (ev_i2b_ok x)
      (kk ls hl)
  case i2s =>
    obtain ⟨x, r, w, rfl, hg, rfl, rfl⟩ := ev_uI_ok h
    cases hg
    exact lv_i2s (v := Int32.ofInt ((x + 32768) % 65536 - 32768)) hx hb hdg (ev_i2s_ok x)
      (kk ls hl)
  case i2d =>
    obtain ⟨x, r, w, rfl, hg, rfl, rfl⟩ := ev_uI_ok h
    cases hg
    exact lv_i2d hx hb hdg
      (kk ls hl)
  case d2i =>
    obtain ⟨x, r, w, rfl, hg, rfl, rfl⟩ := ev_uD_ok h
    cases hg
    exact lv_d2i hx hb hdg
      (by rw [← Int32.ofInt_toInt (FP.d2i x)]; exact kk ls hl)
  case fneg =>
    obtain ⟨x, r, w, rfl, hg, rfl, rfl⟩ := ev_uF_ok h
    cases hg
    exact lv_fneg hx hb hdg
      (kk ls hl)
  case fcmp o =>
    obtain ⟨x, y, r, w, rfl, hg, rfl, rfl⟩ := ev_bFF_ok h
    cases hg
    exact lv_fcmp hx hb hdg (by rw [← Int32.ofInt_toInt (Op.cmpValue (FP.fcmp x y) o)]; exact kk ls hl)
  case dcmp o =>
    obtain ⟨x, y, r, w, rfl, hg, rfl, rfl⟩ := ev_bDD_ok h
    cases hg
    exact lv_dcmp hx hb hdg (by rw [← Int32.ofInt_toInt (Op.cmpValue (FP.dcmp x y) o)]; exact kk ls hl)
  case dadd =>
    obtain ⟨x, y, r, w, rfl, hg, rfl, rfl⟩ := ev_bDD_ok h
    have hg : (if FP.dadd x y &&& 0x7fffffffffffffff ≤ 0x7ff0000000000000 then some (eD (FP.dadd x y)) else none) = some w := hg
    split at hg
    · rename_i h0
      cases hg
      exact lv_dadd hx hb hdg h0 (kk ls hl)
    · cases hg
  case dsub =>
    obtain ⟨x, y, r, w, rfl, hg, rfl, rfl⟩ := ev_bDD_ok h
    have hg : (if FP.dsub x y &&& 0x7fffffffffffffff ≤ 0x7ff0000000000000 then some (eD (FP.dsub x y)) else none) = some w := hg
    split at hg
    · rename_i h0
      cases hg
      exact lv_dsub hx hb hdg h0 (kk ls hl)
    · cases hg
  case dmul =>
    obtain ⟨x, y, r, w, rfl, hg, rfl, rfl⟩ := ev_bDD_ok h
    have hg : (if FP.dmul x y &&& 0x7fffffffffffffff ≤ 0x7ff0000000000000 then some (eD (FP.dmul x y)) else none) = some w := hg
    split at hg
    · rename_i h0
      cases hg
      exact lv_dmul hx hb hdg h0 (kk ls hl)
    · cases hg
  case ddiv =>
    obtain ⟨x, y, r, w, rfl, hg, rfl, rfl⟩ := ev_bDD_ok h
    have hg : (if FP.ddiv x y &&& 0x7fffffffffffffff ≤ 0x7ff0000000000000 then some (eD (FP.ddiv x y)) else none) = some w := hg
    split at hg
    · rename_i h0
      cases hg
      exact lv_ddiv hx hb hdg h0 (kk ls hl)
    · cases hg
  case d2f =>
    obtain ⟨x, r, w, rfl, hg, rfl, rfl⟩ := ev_uD_ok h
    have hg : (if FP.d2f x &&& 0x7fffffff ≤ 0x7f800000 then some (eF (FP.d2f x)) else none) = some w := hg
    split at hg
    · rename_i h0
      cases hg
      exact lv_d2f hx hb hdg h0 (kk ls hl)
    · cases hg
  case f2d =>
    obtain ⟨x, r, w, rfl, hg, rfl, rfl⟩ := ev_uF_ok h
    have hg : (if FP.f2d x &&& 0x7fffffffffffffff ≤ 0x7ff0000000000000 then some (eD (FP.f2d x)) else none) = some w := hg
    split at hg
    · rename_i h0
      cases hg
      exact lv_f2d hx hb hdg h0 (kk ls hl)
    · cases hg
  case dup =>
    have h : ev_stk 0 lv st = some (lv', st') := h
    cases st with
      | nil => cases h
      | cons v r =>
        simp only [ev_stk] at h
        split at h
        · rename_i h0
          cases h
          exact lv_dup hx hb hdg ((ev_cat_ok ad _).trans h0) (kk ls hl)
        · cases h
  case dup2 =>
    have h : ev_stk 1 lv st = some (lv', st') := h
    cases st with
      | nil => cases h
      | cons v r =>
        cases r with
        | nil => cases h
        | cons w r =>
          simp only [ev_stk] at h
          split at h
          · rename_i h0
            cases h
            exact lv_dup2_11 hx hb hdg ((ev_cat_ok ad _).trans h0.1) ((ev_cat_ok ad _).trans h0.2) (kk ls hl)
          · cases h
  case pop2 =>
    have h : ev_p2 lv st = some (lv', st') := h
    cases st with
      | nil => cases h
      | cons v r =>
        simp only [ev_p2] at h
        split at h
        · rename_i h0
          cases h
          exact lv_pop2_2 hx hb hdg ((ev_cat_ok ad _).trans h0) (kk ls hl)
        · cases h
  case pop =>
    have h : ev_stk 2 lv st = some (lv', st') := h
    cases st with
      | nil => cases h
      | cons v r =>
        simp only [ev_stk] at h
        split at h
        · rename_i h0
          cases h
          exact lv_pop hx hb hdg ((ev_cat_ok ad _).trans h0) (kk ls hl)
        · cases h
  all_goals (simp [ev_s] at h)
