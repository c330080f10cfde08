/-! THE SMALL MACHINE: its memory's instructions, calls, and the machine itself -/
/-- what was there before: kind (0: no array), length, contents -/
abbrev eG : Type := Nat → Nat × Nat × (Nat → Int)
def ev_al (fg : eG) (μ : eM) (kd r : Nat) (i : Int) : Option Int :=
  if r < 64 then (if (fg r).1 = kd ∧ 0 ≤ ev_w i ∧ ev_w i < ((fg r).2.1 : Int) then some ((fg r).2.2 (ev_w i).toNat) else none)
  else match μ.2.1[r - 64]? with
    | some q => if q.1 = kd ∧ 0 ≤ ev_w i ∧ ev_w i < (q.2 : Int) then some (μ.1 r (ev_w i).toNat) else none
    | none => none
def ev_as (μ : eM) (kd r : Nat) (i x : Int) : Option eM :=
  if r < 64 then none
  else match μ.2.1[r - 64]? with
    | some q => if q.1 = kd ∧ 0 ≤ ev_w i ∧ ev_w i < (q.2 : Int) then some (ev_up μ.1 r (ev_w i).toNat x, μ.2) else none
    | none => none
def ev_ln (fg : eG) (μ : eM) (r : Nat) : Option Nat :=
  if r < 64 then (if (fg r).1 = 0 then none else some (fg r).2.1)
  else match μ.2.1[r - 64]? with
    | some q => if 100 ≤ q.1 ∧ q.1 ≤ 103 then some q.2 else none
    | none => none
/-- the kind of a cell made in this run -/
def ev_kd (μ : eM) (r : Nat) : Option Nat := if r < 64 then none else (μ.2.1[r - 64]?).map fun q => q.1
/-- a new cell -/
def ev_nw (μ : eM) (kd n : Nat) : eM := (ev_ur μ.1 (μ.2.1.length + 64) (fun _ => 0), μ.2.1 ++ [(kd, n)], μ.2.2 + n)
def ev_m (fg : eG) (q : eL) (st : List eV) (μ : eM) : Option (List eV × eM) := match q.2.1 with
  | .getfield _ => (match st with
    | .inr (.inr r) :: s => if ev_kd μ r = some q.2.2.2.1.1 then some (ev_pv q.2.2.2.1.2.2.1 (μ.1 r q.2.2.2.1.2.1) :: s, μ) else none
    | _ => none)
  | .putfield _ => (match st with
    | v :: .inr (.inr r) :: s => if ev_kd μ r = some q.2.2.2.1.1 then (match ev_qv q.2.2.2.1.2.2.1 v with
      | some x => some (s, (ev_up μ.1 r q.2.2.2.1.2.1 x, μ.2))
      | none => none) else none
    | _ => none)
  | .iaload => (match st with
    | .inl (.inl i) :: .inr (.inr r) :: s => (ev_al fg μ 100 r i).map fun x => (eI x :: s, μ)
    | _ => none)
  | .laload => (match st with
    | .inl (.inl i) :: .inr (.inr r) :: s => (ev_al fg μ 101 r i).map fun x => (eJ x :: s, μ)
    | _ => none)
  | .baload => (match st with
    | .inl (.inl i) :: .inr (.inr r) :: s => (match ev_kd μ r with
      | some 102 => (ev_al fg μ 102 r i).map fun x => (eI x :: s, μ)
      | some 103 => (ev_al fg μ 103 r i).map fun x => (eI x :: s, μ)
      | _ => none)
    | _ => none)
  | .iastore => (match st with
    | .inl (.inl x) :: .inl (.inl i) :: .inr (.inr r) :: s => (ev_as μ 100 r i x).map fun z => (s, z)
    | _ => none)
  | .lastore => (match st with
    | .inl (.inr x) :: .inl (.inl i) :: .inr (.inr r) :: s => (ev_as μ 101 r i x).map fun z => (s, z)
    | _ => none)
  | .bastore => (match st with
    | .inl (.inl x) :: .inl (.inl i) :: .inr (.inr r) :: s => (match ev_kd μ r with
      | some 102 => (ev_as μ 102 r i ((x + 128) % 256 - 128)).map fun z => (s, z)
      | some 103 => if ev_w x = 0 ∨ ev_w x = 1 then (ev_as μ 103 r i x).map fun z => (s, z) else none
      | _ => none)
    | _ => none)
  | .arraylength => (match st with
    | .inr (.inr r) :: s => (ev_ln fg μ r).map fun n => (eI (n : Int) :: s, μ)
    | _ => none)
  | .new _ => some (eR (μ.2.1.length + 64) :: st, ev_nw μ q.2.2.2.1.1 (dt_lay q.2.2.2.1.1).length)
  | .newarray _ => (match st with
    | .inl (.inl n) :: s => if 0 ≤ ev_w n ∧ ev_w n ≤ 1000000 then some (eR (μ.2.1.length + 64) :: s, ev_nw μ q.2.2.2.1.1 (ev_w n).toNat) else none
    | _ => none)
  | .ldc _ | .ldc_w _ | .ldc2_w _ => (match q.2.2.2.1.1 with
    | 0 => some (eI q.2.2.2.2 :: st, μ)
    | 1 => some (eJ q.2.2.2.2 :: st, μ)
    | 2 => some (eD (UInt64.ofNat q.2.2.2.2.toNat) :: st, μ)
    | _ => some (eR q.2.2.2.1.2.1 :: st, μ))
  | .getstatic _ => some (eR q.2.2.2.1.1 :: st, μ)
  | _ => none
/-- an answer -/
noncomputable def ev_rt (y : Nat) (i : Instr) (st : List eV) : Option (Option eV) := match i, st with
  | .return_, [] => if (dt_pl y).2.1 = 0 then some none else none
  | .ireturn, [.inl (.inl x)] => if (dt_pl y).2.1 = 1 then some (some (eI x)) else if (dt_pl y).2.1 = 2 ∧ (ev_w x = 0 ∨ ev_w x = 1) then some (some (eI x)) else none
  | .lreturn, [.inl (.inr x)] => if (dt_pl y).2.1 = 3 then some (some (eJ x)) else none
  | .dreturn, [.inr (.inl (.inl x))] => if (dt_pl y).2.1 = 4 then some (some (eD x)) else none
  | .areturn, [.inr (.inr r)] => if (dt_pl y).2.1 = 5 then some (some (eR r)) else none
  | _, _ => none
/-- the locals at a method's entry -/
def ev_en (n : Nat) (as : List eV) : List (Option eV) :=
  let l := as.flatMap fun v => if ev_cat v = 2 then [some v, none] else [some v]
  l ++ List.replicate (n - l.length) none
/-- a call: the method, what is handed to it, what stays on the stack -/
noncomputable def ev_cl2 (μ : eM) (q : eL) (st : List eV) : Option (Nat × List eV × List eV) :=
  let n := q.2.2.2.1.2.2.1
  let y := q.2.2.2.1.2.1
  let as := (st.take n).reverse
  let r := st.drop n
  if n ≤ st.length then (match q.2.1, q.2.2.2.1.1, r with
    | .invokestatic _, 2, r => if (r.map ev_cat).sum ≤ 8 then some (y, as, r) else none
    | .invokevirtual _, 0, .inr (.inr o) :: r => if (r.map ev_cat).sum ≤ 8 ∧ ev_kd μ o = some (dt_pl y).2.2.2.2.2.2.2 then some (y, .inr (.inr o) :: as, r) else none
    | .invokespecial _, 1, .inr (.inr o) :: r => if (r.map ev_cat).sum ≤ 8 ∧ 64 ≤ o then some (y, .inr (.inr o) :: as, r) else none
    | _, _, _ => none) else none
