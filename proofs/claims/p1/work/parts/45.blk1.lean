/-! BLOCKS of code, walked with places of their own for what is loaded, pushed and called: the words. An entry: a mark (0 an int that is known, 1 a long, 2 a cell, 3 a cell or null, 4 nothing, 5 a static array, 9 not looked at yet) and its code -/
abbrev bE : Type := Nat × Nat
abbrev bO : Type := List (Option (Nat × Nat × Nat))
abbrev bF : Type := Nat × Nat × Nat × bO × Nat × List bE
abbrev bK : Type := Nat → Nat → Nat → bO → Nat → List bE → List bF → nM → Bool
abbrev bC : Type := Nat → Nat → bO → Nat → List bE → List bF → nM → bK → Bool → Bool
noncomputable def b_if (b x y : Bool) : Bool := @Bool.rec (fun _ => Bool) y x b
theorem b_if_t {b x y : Bool} (h : b_if b x y = true) : (b = true ∧ x = true) ∨ (b = false ∧ y = true) := by
  cases b with
  | true => exact Or.inl ⟨rfl, h⟩
  | false => exact Or.inr ⟨rfl, h⟩
/-- locals: dirty or not, mark, code -/
def bo_at : bO → Nat → Option (Nat × Nat × Nat)
  | [], _ => none
  | x :: _, 0 => x
  | _ :: r, k + 1 => bo_at r k
def bo_set : bO → Nat → Nat × Nat × Nat → bO
  | [], 0, e => [some e]
  | [], k + 1, e => none :: bo_set [] k e
  | _ :: r, 0, e => some e :: r
  | x :: r, k + 1, e => x :: bo_set r k e
theorem bo_nil (k : Nat) : bo_at [] k = none := by
  cases k <;> rfl
theorem bo_at_set : ∀ (ov : bO) (k : Nat) (e : Nat × Nat × Nat) (j : Nat), bo_at (bo_set ov k e) j = if j = k then some e else bo_at ov j := by
  intro ov k
  induction k generalizing ov with
  | zero =>
    intro e j
    cases ov <;> cases j <;> simp [bo_set, bo_at]
  | succ k ih =>
    intro e j
    cases ov with
    | nil =>
      cases j with
      | zero => simp [bo_set, bo_at]
      | succ j =>
        show bo_at (bo_set [] k e) j = _
        rw [ih]
        simp only [Nat.add_right_cancel_iff, bo_nil]
    | cons x r =>
      cases j with
      | zero => simp [bo_set, bo_at]
      | succ j =>
        show bo_at (bo_set r k e) j = if j + 1 = k + 1 then some e else bo_at r j
        rw [ih]
        simp only [Nat.add_right_cancel_iff]
noncomputable def b_loc (L : Nat) (ov : bO) (k : Nat) : bE := @Option.rec (Nat × Nat × Nat) (fun _ => bE) (9, Nat.mod (Nat.div L (nW ^ k)) nW) (fun x => x.2) (bo_at ov k)
noncomputable def b_mk (ov : bO) (k m c : Nat) : bO := bo_set ov k (@Option.rec (Nat × Nat × Nat) (fun _ => Nat) 0 (fun x => x.1) (bo_at ov k), m, c)
/-! as they lie in numbers -/
noncomputable def pk_S (S : Nat) : List bE → Nat
  | [] => S
  | e :: r => Nat.add (Nat.mul (pk_S S r) nW) e.2
noncomputable def pk_L (L : Nat) : Nat → bO → Nat
  | _, [] => L
  | k, x :: r => pk_L (@Option.rec (Nat × Nat × Nat) (fun _ => Nat) L (fun x => @Nat.rec (fun _ => Nat) L (fun _ _ => n_set L (nW ^ k) x.2.2) x.1) x) (k + 1) r
noncomputable def pk_f (f : bF) : nF := (f.1, f.2.1, pk_L f.2.2.1 0 f.2.2.2.1, pk_S f.2.2.2.2.1 f.2.2.2.2.2)
noncomputable def pk_F (F : List nF) : List bF → List nF
  | [] => F
  | f :: r => pk_f f :: pk_F F r
noncomputable def b_Q (Q : nK) (d : Nat) (F : List nF) : bK := fun y pc L ov S ss I M => Q (Nat.sub d I.length) y pc (pk_L L 0 ov) (pk_S S ss) (pk_F F I) M
/-! what an entry must be -/
noncomputable def b_pop (S : Nat) (ss : List bE) (K : bE → Nat → List bE → Bool) : Bool := @List.rec bE (fun _ => Bool) (K (9, Nat.mod S nW) (Nat.div S nW) []) (fun e r _ => K e S r) ss
noncomputable def b_I (z : Bool) (e : bE) (K : Nat → Bool) : Bool := @Prod.rec Nat Nat (fun _ => Bool) (fun m c => b_if (Nat.beq m 0) (K c) (b_if (Nat.beq m 9) (f_if z (Nat.beq (Nat.mod c 8) 0) (K c)) z)) e
noncomputable def b_J (z : Bool) (e : bE) (K : Nat → Bool) : Bool := @Prod.rec Nat Nat (fun _ => Bool) (fun m c => b_if (Nat.beq m 1) (K c) (b_if (Nat.beq m 9) (f_if z (Nat.beq (Nat.mod c 8) 1) (K c)) z)) e
noncomputable def b_A (z : Bool) (e : bE) (K : Nat → Bool) : Bool := @Prod.rec Nat Nat (fun _ => Bool) (fun m c => b_if (Nat.beq m 2) (K c) (b_if (Nat.beq m 3) (K c) (b_if (Nat.beq m 9) (f_if z (Nat.beq (Nat.mod c 8) 2) (K c)) z))) e
noncomputable def b_N (z : Bool) (e : bE) (K : Nat → Nat → Bool) : Bool := @Prod.rec Nat Nat (fun _ => Bool) (fun m c => b_if (Nat.beq m 2) (K 2 c) (b_if (Nat.beq m 5) (K 5 c) (b_if (Nat.beq m 3) (f_if z (Nat.ble 10 c) (K 2 c)) (b_if (Nat.beq m 9) (f_if z (Nat.beq (Nat.mod c 8) 2) (f_if z (Nat.ble 10 c) (K 2 c))) z)))) e
noncomputable def b_1 (z : Bool) (e : bE) (K : Bool) : Bool := @Prod.rec Nat Nat (fun _ => Bool) (fun m c => b_if (Nat.beq m 1) z (b_if (Nat.beq m 4) z (b_if (Nat.beq m 9) (f_if z (n_c1 c) K) K))) e
noncomputable def b_T (m : Nat) (z : Bool) (e : bE) (K : Nat → Bool) : Bool := b_if (Nat.beq m 0) (b_I z e K) (b_J z e K)
/-! steps -/
noncomputable def bs_no : bC := fun _ _ _ _ _ _ _ _ z => z
noncomputable def bs_ld (m k y np : Nat) : bC := fun _ L ov S ss I M K z => @Prod.rec Nat Nat (fun _ => Bool) (fun mk c => b_if (Nat.beq mk m) (K y np L ov S ((m, c) :: ss) I M) (b_T m z (mk, c) fun c => K y np L (b_mk ov k m c) S ((m, c) :: ss) I M)) (b_loc L ov k)
noncomputable def bs_al (k y np : Nat) : bC := fun _ L ov S ss I M K z => @Prod.rec Nat Nat (fun _ => Bool) (fun mk c => b_if (Nat.beq mk 2) (K y np L ov S ((2, c) :: ss) I M) (b_if (Nat.beq mk 5) (K y np L ov S ((5, c) :: ss) I M) (b_N z (mk, c) fun m c => K y np L (b_mk ov k m c) S ((m, c) :: ss) I M))) (b_loc L ov k)
noncomputable def b_pr (z : Bool) (L : Nat) (ov : bO) (k : Nat) (K : Bool) : Bool := @Nat.rec (fun _ => Bool) K (fun j _ => @Prod.rec Nat Nat (fun _ => Bool) (fun m c => b_if (Nat.beq m 1) z (b_if (Nat.beq m 9) (b_if (n_t1 c) z K) K)) (b_loc L ov j)) k
noncomputable def bs_is (k y np : Nat) : bC := fun _ L ov S ss I M K z => b_pop S ss fun e S ss => b_I z e fun c => b_pr z L ov k (K y np L (bo_set ov k (1, 0, c)) S ss I M)
noncomputable def bs_as (k y np : Nat) : bC := fun _ L ov S ss I M K z => b_pop S ss fun e S ss => b_N z e fun m c => b_pr z L ov k (K y np L (bo_set ov k (1, m, c)) S ss I M)
noncomputable def bs_ls (k y np : Nat) : bC := fun _ L ov S ss I M K z => b_pop S ss fun e S ss => b_J z e fun c => b_pr z L ov k (K y np L (bo_set (bo_set ov k (1, 1, c)) (k + 1) (1, 4, 4)) S ss I M)
noncomputable def bs_inc (k n y np : Nat) : bC := fun _ L ov S ss I M K z => b_I z (b_loc L ov k) fun c => b_pr z L ov k (K y np L (bo_set ov k (1, 0, Nat.mod (Nat.add c n) 34359738368)) S ss I M)
noncomputable def bs_c (m c y np : Nat) : bC := fun _ L ov S ss I M K _ => K y np L ov S ((m, c) :: ss) I M
noncomputable def bs_2 (m1 m2 m3 : Nat) (g : Nat → Nat → Nat) (y np : Nat) : bC := fun _ L ov S ss I M K z => b_pop S ss fun e1 S ss => b_T m1 z e1 fun q => b_pop S ss fun e2 S ss => b_T m2 z e2 fun p => K y np L ov S ((m3, g p q) :: ss) I M
noncomputable def bs_1 (m1 m3 : Nat) (g : Nat → Nat) (y np : Nat) : bC := fun _ L ov S ss I M K z => b_pop S ss fun e1 S ss => b_T m1 z e1 fun q => K y np L ov S ((m3, g q) :: ss) I M
noncomputable def bs_div (g : Nat → Nat → Nat) (y np : Nat) : bC := fun _ L ov S ss I M K z => b_pop S ss fun e1 S ss => b_I z e1 fun q => b_pop S ss fun e2 S ss => b_I z e2 fun p => f_if z (Nat.ble 1 q) (f_if z (Nat.ble (Nat.succ q) 17179869184) (f_if z (Nat.ble (Nat.succ p) 17179869184) (K y np L ov S ((0, g p q) :: ss) I M)))
noncomputable def bs_dup (y np : Nat) : bC := fun _ L ov S ss I M K z => b_pop S ss fun e S ss => b_1 z e (K y np L ov S (e :: e :: ss) I M)
noncomputable def bs_dup2 (y np : Nat) : bC := fun _ L ov S ss I M K z => b_pop S ss fun e S ss => b_1 z e (b_pop S ss fun f S ss => b_1 z f (K y np L ov S (e :: f :: e :: f :: ss) I M))
noncomputable def bs_pop (y np : Nat) : bC := fun _ L ov S ss I M K z => b_pop S ss fun e S ss => b_1 z e (K y np L ov S ss I M)
noncomputable def bs_go (t y : Nat) : bC := fun _ L ov S ss I M K _ => K y t L ov S ss I M
noncomputable def b_sh (c : Nat) : Nat := Nat.mod (Nat.add c 17179869184) 34359738368
/-- which way: p against q; n if not, t if so -/
noncomputable def b_w (c : Jvm.ClassFile.Cond) (p q : Nat) (n t : Bool) : Bool := match c with
  | .eq => b_if (Nat.beq p q) t n
  | .ne => b_if (Nat.beq p q) n t
  | .lt => b_if (Nat.ble (b_sh q) (b_sh p)) n t
  | .ge => b_if (Nat.ble (b_sh q) (b_sh p)) t n
  | .gt => b_if (Nat.ble (b_sh p) (b_sh q)) n t
  | .le => b_if (Nat.ble (b_sh p) (b_sh q)) t n
noncomputable def bs_if (c : Jvm.ClassFile.Cond) (n t y : Nat) : bC := fun _ L ov S ss I M K z => b_pop S ss fun e1 S ss => b_I z e1 fun p => b_w c p 0 (K y n L ov S ss I M) (K y t L ov S ss I M)
noncomputable def bs_ic (c : Jvm.ClassFile.Cond) (n t y : Nat) : bC := fun _ L ov S ss I M K z => b_pop S ss fun e1 S ss => b_I z e1 fun q => b_pop S ss fun e2 S ss => b_I z e2 fun p => b_w c p q (K y n L ov S ss I M) (K y t L ov S ss I M)
noncomputable def bs_nu (t1 t2 y : Nat) : bC := fun _ L ov S ss I M K z => b_pop S ss fun e S ss => @Prod.rec Nat Nat (fun _ => Bool) (fun m c => b_if (Nat.beq m 2) (K y t2 L ov S ss I M) (b_A z (m, c) fun c => b_if (Nat.beq c 2) (K y t1 L ov S ss I M) (K y t2 L ov S ss I M))) e
/-- a number that was read: as an int, a long, a cell -/
noncomputable def b_v (t : Nat) (z : Bool) (c : Nat) (K : bE → Bool) : Bool := b_if (Nat.ble t 1) (f_if z (Nat.beq (Nat.mod c 8) 0) (K (0, c))) (b_if (Nat.beq t 2) (f_if z (Nat.beq (Nat.mod (@Bool.rec (fun _ => Nat) c 1 (Nat.beq c 0)) 8) 1) (K (1, @Bool.rec (fun _ => Nat) c 1 (Nat.beq c 0)))) (f_if z (Nat.beq (Nat.mod (@Bool.rec (fun _ => Nat) c 2 (Nat.beq c 0)) 8) 2) (K (3, @Bool.rec (fun _ => Nat) c 2 (Nat.beq c 0)))))
noncomputable def bs_gf (t a b b1 b2 y np : Nat) : bC := fun _ L ov S ss I M K z => b_pop S ss fun e S ss => b_A z e fun c => n_in z M (Nat.div c 8) (f_if z (Nat.beq (n_get M.1 (Nat.sub (Nat.div c 8) 64)).1 a) (f_if z (Nat.ble (Nat.succ b) (n_get M.1 (Nat.sub (Nat.div c 8) 64)).2.1) (b_v t z (n_at ((n_get M.1 (Nat.sub (Nat.div c 8) 64)).2.2.get b1) b2) fun v => K y np L ov S (v :: ss) I M)))
/-- what is written: an int, a bit, a long, a cell -/
noncomputable def b_q (t : Nat) (z : Bool) (e : bE) (K : Nat → Bool) : Bool := b_if (Nat.beq t 0) (b_I z e K) (b_if (Nat.beq t 1) (b_I z e fun c => f_if z (n_z c) (K c)) (b_if (Nat.beq t 2) (b_J z e K) (b_A z e K)))
noncomputable def bs_pf (t a b b1 P y np : Nat) : bC := fun _ L ov S ss I M K z => b_pop S ss fun e S ss => b_q t z e fun v => b_pop S ss fun e S ss => b_A z e fun c => n_in z M (Nat.div c 8) (f_if z (Nat.beq (n_get M.1 (Nat.sub (Nat.div c 8) 64)).1 a) (f_if z (Nat.ble (Nat.succ b) (n_get M.1 (Nat.sub (Nat.div c 8) 64)).2.1) (n_wK z M (Nat.sub (Nat.div c 8) 64) b1 P v fun M => K y np L ov S ss I M)))
noncomputable def b_ix (z : Bool) (c len : Nat) (K : Bool) : Bool := f_if z (Nat.ble (Nat.add c 8) (Nat.mul 8 len)) (f_if z (Nat.ble c 131064) K)
noncomputable def bs_ga (t : Nat) (ng : nG) (kk y np : Nat) : bC := fun _ L ov S ss I M K z => b_pop S ss fun e S ss => b_I z e fun i => b_pop S ss fun e S ss => @Prod.rec Nat Nat (fun _ => Bool) (fun m c => b_if (Nat.beq m 5) (f_if z (Nat.beq (ng (Nat.div c 8)).1 kk) (b_ix z i (ng (Nat.div c 8)).2.1 (b_v t z (n_rg (ng (Nat.div c 8)).2.2 (Nat.div i 8)) fun v => K y np L ov S (v :: ss) I M))) (b_A z (m, c) fun c => n_in z M (Nat.div c 8) (f_if z (Nat.beq (n_get M.1 (Nat.sub (Nat.div c 8) 64)).1 kk) (b_ix z i (n_get M.1 (Nat.sub (Nat.div c 8) 64)).2.1 (b_v t z (n_rg (n_get M.1 (Nat.sub (Nat.div c 8) 64)).2.2 (Nat.div i 8)) fun v => K y np L ov S (v :: ss) I M))))) e
noncomputable def bs_bl (y np : Nat) : bC := fun _ L ov S ss I M K z => b_pop S ss fun e S ss => b_I z e fun i => b_pop S ss fun e S ss => b_A z e fun c => n_in z M (Nat.div c 8) (f_if z (Nat.ble 102 (n_get M.1 (Nat.sub (Nat.div c 8) 64)).1) (f_if z (Nat.ble (n_get M.1 (Nat.sub (Nat.div c 8) 64)).1 103) (b_ix z i (n_get M.1 (Nat.sub (Nat.div c 8) 64)).2.1 (b_v 0 z (n_rg (n_get M.1 (Nat.sub (Nat.div c 8) 64)).2.2 (Nat.div i 8)) fun v => K y np L ov S (v :: ss) I M))))
noncomputable def bs_sa (t kk y np : Nat) : bC := fun _ L ov S ss I M K z => b_pop S ss fun e S ss => b_q t z e fun v => b_pop S ss fun e S ss => b_I z e fun i => b_pop S ss fun e S ss => b_A z e fun c => n_in z M (Nat.div c 8) (f_if z (Nat.beq (n_get M.1 (Nat.sub (Nat.div c 8) 64)).1 kk) (b_ix z i (n_get M.1 (Nat.sub (Nat.div c 8) 64)).2.1 (n_wK z M (Nat.sub (Nat.div c 8) 64) (Nat.div (Nat.div i 8) 64) (Nat.pow nW (Nat.mod (Nat.div i 8) 64)) v fun M => K y np L ov S ss I M)))
noncomputable def bs_ln (ng : nG) (y np : Nat) : bC := fun _ L ov S ss I M K z => b_pop S ss fun e S ss => @Prod.rec Nat Nat (fun _ => Bool) (fun m c => b_if (Nat.beq m 5) (f_if z (Nat.ble 100 (ng (Nat.div c 8)).1) (f_if z (Nat.ble (ng (Nat.div c 8)).1 103) (f_if z (Nat.ble (ng (Nat.div c 8)).2.1 16384) (K y np L ov S ((0, Nat.mul 8 (ng (Nat.div c 8)).2.1) :: ss) I M)))) (b_A z (m, c) fun c => n_in z M (Nat.div c 8) (f_if z (Nat.ble 100 (n_get M.1 (Nat.sub (Nat.div c 8) 64)).1) (f_if z (Nat.ble (n_get M.1 (Nat.sub (Nat.div c 8) 64)).1 103) (f_if z (Nat.ble (n_get M.1 (Nat.sub (Nat.div c 8) 64)).2.1 16384) (K y np L ov S ((0, Nat.mul 8 (n_get M.1 (Nat.sub (Nat.div c 8) 64)).2.1) :: ss) I M)))))) e
/-! calls -/
noncomputable def b_cp (z : Bool) (K : Nat → List bE → Nat → bO → Nat → Bool) (t : Nat) : Nat → List bE → Nat → bO → Nat → Bool := @Nat.rec (fun _ => Nat → List bE → Nat → bO → Nat → Bool) K (fun _ ih S ss acc ov n => b_pop S ss fun e S ss => @Prod.rec Nat Nat (fun _ => Bool) (fun m c => b_if (Nat.beq m 1) (ih S ss (Nat.add (Nat.mul (Nat.add (Nat.mul acc nW) 4) nW) c) (some (0, 1, c) :: some (0, 4, 4) :: ov) (Nat.succ (Nat.succ n))) (b_1 z (m, c) (ih S ss (Nat.add (Nat.mul acc nW) c) (some (0, m, c) :: ov) (Nat.succ n)))) e) t
noncomputable def b_sm (z : Bool) (S : Nat) (ss : List bE) (K : Bool) : Bool := (@List.rec bE (fun _ => Bool) (f_if z (Nat.ble (Nat.succ S) 9394170331095332911557922387157348109502730195633279482829163886128836100458433773854795993539074812127739904) K) (fun _ r1 _ => (@List.rec bE (fun _ => Bool) (f_if z (Nat.ble (Nat.succ S) 1989292945639146568621528992587283360401824603189390869761855907572637988050133502132224) K) (fun _ r2 _ => (@List.rec bE (fun _ => Bool) (f_if z (Nat.ble (Nat.succ S) 421249166674228746791672110734681729275580381602196445017243910144) K) (fun _ r3 _ => (@List.rec bE (fun _ => Bool) (f_if z (Nat.ble (Nat.succ S) 89202980794122492566142873090593446023921664) K) (fun _ r4 _ => (@List.rec bE (fun _ => Bool) (f_if z (Nat.ble (Nat.succ S) 18889465931478580854784) K) (fun _ r5 _ => (f_if z (n_sm (pk_S S ss)) K)) r4)) r3)) r2)) r1)) ss)
noncomputable def b_go (z : Bool) (K : bK) (b y np acc : Nat) (ov2 : bO) (d L : Nat) (ov : bO) (S : Nat) (ss : List bE) (I : List bF) (M : nM) : Bool := b_sm z S ss (f_if z (Nat.ble (Nat.succ I.length) d) (K b 0 acc ov2 4 [] ((y, np, L, ov, S, ss) :: I) M))
noncomputable def bs_qs (b t x pad y np : Nat) : bC := fun d L ov S ss I M K z => b_cp z (fun S ss acc ov2 c => f_if z (Nat.beq c x) (b_go z K b y np acc ov2 d L ov S ss I M)) t S ss pad [] 0
noncomputable def bs_qv (b t x pad cl y np : Nat) : bC := fun d L ov S ss I M K z => b_cp z (fun S ss acc ov2 c => f_if z (Nat.beq (Nat.succ c) x) (b_pop S ss fun e S ss => b_A z e fun p => n_in z M (Nat.div p 8) (f_if z (Nat.beq (n_get M.1 (Nat.sub (Nat.div p 8) 64)).1 cl) (b_go z K b y np (Nat.add (Nat.mul acc nW) p) (some (0, 2, p) :: ov2) d L ov S ss I M)))) t S ss pad [] 0
noncomputable def bs_qi (b t x pad y np : Nat) : bC := fun d L ov S ss I M K z => b_cp z (fun S ss acc ov2 c => f_if z (Nat.beq (Nat.succ c) x) (b_pop S ss fun e S ss => b_A z e fun p => f_if z (Nat.ble 64 (Nat.div p 8)) (b_go z K b y np (Nat.add (Nat.mul acc nW) p) (some (0, 2, p) :: ov2) d L ov S ss I M))) t S ss pad [] 0
/-! answers, of methods that were called within the block -/
noncomputable def b_up (z : Bool) (I : List bF) (K : Nat → Nat → Nat → bO → Nat → List bE → List bF → Bool) : Bool := @List.rec bF (fun _ => Bool) z (fun f r _ => @Prod.rec Nat (Nat × Nat × bO × Nat × List bE) (fun _ => Bool) (fun y f1 => @Prod.rec Nat (Nat × bO × Nat × List bE) (fun _ => Bool) (fun np f2 => @Prod.rec Nat (bO × Nat × List bE) (fun _ => Bool) (fun L f3 => @Prod.rec bO (Nat × List bE) (fun _ => Bool) (fun ov f4 => @Prod.rec Nat (List bE) (fun _ => Bool) (fun S ss => K y np L ov S ss r) f4) f3) f2) f1) f) I
noncomputable def bs_r0 : bC := fun _ _ _ S ss I M K z => @List.rec bE (fun _ => Bool) (f_if z (Nat.beq S 4) (b_up z I fun y np L ov S ss r => K y np L ov S ss r M)) (fun _ _ _ => z) ss
noncomputable def b_rt (k : Nat) (z : Bool) (e : bE) (K : Nat → Bool) : Bool := b_if (Nat.beq k 1) (b_I z e K) (b_if (Nat.beq k 2) (b_I z e fun c => f_if z (n_z c) (K c)) (b_if (Nat.beq k 3) (b_J z e K) (b_A z e K)))
noncomputable def bs_r1 (k m : Nat) : bC := fun _ _ _ S ss I M K z => @List.rec bE (fun _ => Bool) z (fun e r _ => @List.rec bE (fun _ => Bool) (b_rt k z e fun c => f_if z (Nat.beq S 4) (b_up z I fun y np L ov S ss r => K y np L ov S ((m, c) :: ss) r M)) (fun _ _ _ => z) r) ss
