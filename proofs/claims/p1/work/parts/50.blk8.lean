/-! BLOCKS over words that are not looked into -/
abbrev xT : Type := (Nat → Nat → Bool) × (Nat → Nat → Bool) × (Nat → Nat → Nat) × (Nat → Nat → Nat) × (Nat → Nat → Nat) × (Nat → Nat → Nat) × (Nat → Nat → Nat) × (Nat → Nat) × (nC7 → Nat → nC0) × (Nat → Nat → Nat) × (Lean.RArray Nat → Nat → Nat) × (Nat → Nat → Nat → Nat) × (Nat → Nat → Nat) × (Nat → Bool) × (Nat → Bool) × (Nat → Bool) × (Nat → Bool) × (Nat → Nat → nC) × (Bool → nM → Nat → Nat → Nat → Nat → (nM → Bool) → Bool)
noncomputable def xb_loc (X : xT) (L : Nat) (ov : bO) (k : Nat) : bE := @Option.rec (Nat × Nat × Nat) (fun _ => bE) (9, X.2.2.1 (X.2.2.2.1 L (nW ^ k)) nW) (fun x => x.2) (bo_at ov k)
noncomputable def xpk_S (X : xT) (S : Nat) : List bE → Nat
  | [] => S
  | e :: r => X.2.2.2.2.1 (X.2.2.2.2.2.1 (xpk_S X S r) nW) e.2
noncomputable def xpk_L (X : xT) (L : Nat) : Nat → bO → Nat
  | _, [] => L
  | k, x :: r => xpk_L X (@Option.rec (Nat × Nat × Nat) (fun _ => Nat) L (fun x => @Nat.rec (fun _ => Nat) L (fun _ _ => X.2.2.2.2.2.2.2.2.2.2.2.1 L (nW ^ k) x.2.2) x.1) x) (k + 1) r
noncomputable def xpk_f (X : xT) (f : bF) : nF := (f.1, f.2.1, xpk_L X f.2.2.1 0 f.2.2.2.1, xpk_S X f.2.2.2.2.1 f.2.2.2.2.2)
noncomputable def xpk_F (X : xT) (F : List nF) : List bF → List nF
  | [] => F
  | f :: r => xpk_f X f :: xpk_F X F r
noncomputable def xb_Q (X : xT) (Q : nK) (d : Nat) (F : List nF) : bK := fun y pc L ov S ss I M => Q (Nat.sub d I.length) y pc (xpk_L X L 0 ov) (xpk_S X S ss) (xpk_F X F I) M
noncomputable def xb_pop (X : xT) (S : Nat) (ss : List bE) (K : bE → Nat → List bE → Bool) : Bool := @List.rec bE (fun _ => Bool) (K (9, X.2.2.1 S nW) (X.2.2.2.1 S nW) []) (fun e r _ => K e S r) ss
noncomputable def x_in (X : xT) (z : Bool) (M : nM) (r : Nat) (K : Bool) : Bool := f_if z (X.2.1 64 r) (f_if z (X.2.1 (X.2.2.2.2.2.2.2.1 (X.2.2.2.2.2.2.1 r 64)) M.2.1) K)
noncomputable def xb_I (X : xT) (z : Bool) (e : bE) (K : Nat → Bool) : Bool := @Prod.rec Nat Nat (fun _ => Bool) (fun m c => b_if (Nat.beq m 0) (K c) (b_if (Nat.beq m 9) (f_if z (X.1 (X.2.2.1 c 8) 0) (K c)) z)) e
noncomputable def xb_J (X : xT) (z : Bool) (e : bE) (K : Nat → Bool) : Bool := @Prod.rec Nat Nat (fun _ => Bool) (fun m c => b_if (Nat.beq m 1) (K c) (b_if (Nat.beq m 9) (f_if z (X.1 (X.2.2.1 c 8) 1) (K c)) z)) e
noncomputable def xb_A (X : xT) (z : Bool) (e : bE) (K : Nat → Bool) : Bool := @Prod.rec Nat Nat (fun _ => Bool) (fun m c => b_if (Nat.beq m 2) (K c) (b_if (Nat.beq m 3) (K c) (b_if (Nat.beq m 9) (f_if z (X.1 (X.2.2.1 c 8) 2) (K c)) z))) e
noncomputable def xb_N (X : xT) (z : Bool) (e : bE) (K : Nat → Nat → Bool) : Bool := @Prod.rec Nat Nat (fun _ => Bool) (fun m c => b_if (Nat.beq m 2) (K 2 c) (b_if (Nat.beq m 5) (K 5 c) (b_if (Nat.beq m 3) (f_if z (X.2.1 10 c) (K 2 c)) (b_if (Nat.beq m 9) (f_if z (X.1 (X.2.2.1 c 8) 2) (f_if z (X.2.1 10 c) (K 2 c))) z)))) e
noncomputable def xb_1 (X : xT) (z : Bool) (e : bE) (K : Bool) : Bool := @Prod.rec Nat Nat (fun _ => Bool) (fun m c => b_if (Nat.beq m 1) z (b_if (Nat.beq m 4) z (b_if (Nat.beq m 9) (f_if z (X.2.2.2.2.2.2.2.2.2.2.2.2.2.1 c) K) K))) e
noncomputable def xb_T (X : xT) (m : Nat) (z : Bool) (e : bE) (K : Nat → Bool) : Bool := b_if (Nat.beq m 0) (xb_I X z e K) (xb_J X z e K)
noncomputable def xbs_ld (X : xT) (m k y np : Nat) : bC := fun _ L ov S ss I M K z => @Prod.rec Nat Nat (fun _ => Bool) (fun mk c => b_if (Nat.beq mk m) (K y np L ov S ((m, c) :: ss) I M) (xb_T X m z (mk, c) fun c => K y np L (b_mk ov k m c) S ((m, c) :: ss) I M)) (xb_loc X L ov k)
noncomputable def xbs_al (X : xT) (k y np : Nat) : bC := fun _ L ov S ss I M K z => @Prod.rec Nat Nat (fun _ => Bool) (fun mk c => b_if (Nat.beq mk 2) (K y np L ov S ((2, c) :: ss) I M) (b_if (Nat.beq mk 5) (K y np L ov S ((5, c) :: ss) I M) (xb_N X z (mk, c) fun m c => K y np L (b_mk ov k m c) S ((m, c) :: ss) I M))) (xb_loc X L ov k)
noncomputable def xb_pr (X : xT) (z : Bool) (L : Nat) (ov : bO) (k : Nat) (K : Bool) : Bool := @Nat.rec (fun _ => Bool) K (fun j _ => @Prod.rec Nat Nat (fun _ => Bool) (fun m c => b_if (Nat.beq m 1) z (b_if (Nat.beq m 9) (b_if (X.2.2.2.2.2.2.2.2.2.2.2.2.2.2.1 c) z K) K)) (xb_loc X L ov j)) k
noncomputable def xbs_is (X : xT) (k y np : Nat) : bC := fun _ L ov S ss I M K z => xb_pop X S ss fun e S ss => xb_I X z e fun c => xb_pr X z L ov k (K y np L (bo_set ov k (1, 0, c)) S ss I M)
noncomputable def xbs_as (X : xT) (k y np : Nat) : bC := fun _ L ov S ss I M K z => xb_pop X S ss fun e S ss => xb_N X z e fun m c => xb_pr X z L ov k (K y np L (bo_set ov k (1, m, c)) S ss I M)
noncomputable def xbs_ls (X : xT) (k y np : Nat) : bC := fun _ L ov S ss I M K z => xb_pop X S ss fun e S ss => xb_J X z e fun c => xb_pr X z L ov k (K y np L (bo_set (bo_set ov k (1, 1, c)) (k + 1) (1, 4, 4)) S ss I M)
noncomputable def xbs_inc (X : xT) (k n y np : Nat) : bC := fun _ L ov S ss I M K z => xb_I X z (xb_loc X L ov k) fun c => xb_pr X z L ov k (K y np L (bo_set ov k (1, 0, X.2.2.1 (X.2.2.2.2.1 c n) 34359738368)) S ss I M)
noncomputable def xbs_2 (X : xT) (m1 m2 m3 : Nat) (g : Nat → Nat → Nat) (y np : Nat) : bC := fun _ L ov S ss I M K z => xb_pop X S ss fun e1 S ss => xb_T X m1 z e1 fun q => xb_pop X S ss fun e2 S ss => xb_T X m2 z e2 fun p => K y np L ov S ((m3, g p q) :: ss) I M
noncomputable def xbs_1 (X : xT) (m1 m3 : Nat) (g : Nat → Nat) (y np : Nat) : bC := fun _ L ov S ss I M K z => xb_pop X S ss fun e1 S ss => xb_T X m1 z e1 fun q => K y np L ov S ((m3, g q) :: ss) I M
noncomputable def xbs_div (X : xT) (g : Nat → Nat → Nat) (y np : Nat) : bC := fun _ L ov S ss I M K z => xb_pop X S ss fun e1 S ss => xb_I X z e1 fun q => xb_pop X S ss fun e2 S ss => xb_I X z e2 fun p => f_if z (X.2.1 1 q) (f_if z (X.2.1 (X.2.2.2.2.2.2.2.1 q) 17179869184) (f_if z (X.2.1 (X.2.2.2.2.2.2.2.1 p) 17179869184) (K y np L ov S ((0, g p q) :: ss) I M)))
noncomputable def xbs_dup (X : xT) (y np : Nat) : bC := fun _ L ov S ss I M K z => xb_pop X S ss fun e S ss => xb_1 X z e (K y np L ov S (e :: e :: ss) I M)
noncomputable def xbs_dup2 (X : xT) (y np : Nat) : bC := fun _ L ov S ss I M K z => xb_pop X S ss fun e S ss => xb_1 X z e (xb_pop X S ss fun f S ss => xb_1 X z f (K y np L ov S (e :: f :: e :: f :: ss) I M))
noncomputable def xbs_pop (X : xT) (y np : Nat) : bC := fun _ L ov S ss I M K z => xb_pop X S ss fun e S ss => xb_1 X z e (K y np L ov S ss I M)
noncomputable def xb_sh (X : xT) (c : Nat) : Nat := X.2.2.1 (X.2.2.2.2.1 c 17179869184) 34359738368
noncomputable def xb_w (X : xT) (c : Jvm.ClassFile.Cond) (p q : Nat) (n t : Bool) : Bool := match c with
  | .eq => b_if (X.1 p q) t n
  | .ne => b_if (X.1 p q) n t
  | .lt => b_if (X.2.1 (xb_sh X q) (xb_sh X p)) n t
  | .ge => b_if (X.2.1 (xb_sh X q) (xb_sh X p)) t n
  | .gt => b_if (X.2.1 (xb_sh X p) (xb_sh X q)) n t
  | .le => b_if (X.2.1 (xb_sh X p) (xb_sh X q)) t n
noncomputable def xbs_if (X : xT) (c : Jvm.ClassFile.Cond) (n t y : Nat) : bC := fun _ L ov S ss I M K z => xb_pop X S ss fun e1 S ss => xb_I X z e1 fun p => xb_w X c p 0 (K y n L ov S ss I M) (K y t L ov S ss I M)
noncomputable def xbs_ic (X : xT) (c : Jvm.ClassFile.Cond) (n t y : Nat) : bC := fun _ L ov S ss I M K z => xb_pop X S ss fun e1 S ss => xb_I X z e1 fun q => xb_pop X S ss fun e2 S ss => xb_I X z e2 fun p => xb_w X c p q (K y n L ov S ss I M) (K y t L ov S ss I M)
noncomputable def xbs_nu (X : xT) (t1 t2 y : Nat) : bC := fun _ L ov S ss I M K z => xb_pop X S ss fun e S ss => @Prod.rec Nat Nat (fun _ => Bool) (fun m c => b_if (Nat.beq m 2) (K y t2 L ov S ss I M) (xb_A X z (m, c) fun c => b_if (X.1 c 2) (K y t1 L ov S ss I M) (K y t2 L ov S ss I M))) e
noncomputable def xb_v (X : xT) (t : Nat) (z : Bool) (c : Nat) (K : bE → Bool) : Bool := b_if (Nat.ble t 1) (f_if z (X.1 (X.2.2.1 c 8) 0) (K (0, c))) (b_if (Nat.beq t 2) (f_if z (X.1 (X.2.2.1 (@Bool.rec (fun _ => Nat) c 1 (X.1 c 0)) 8) 1) (K (1, @Bool.rec (fun _ => Nat) c 1 (X.1 c 0)))) (f_if z (X.1 (X.2.2.1 (@Bool.rec (fun _ => Nat) c 2 (X.1 c 0)) 8) 2) (K (3, @Bool.rec (fun _ => Nat) c 2 (X.1 c 0)))))
noncomputable def xbs_gf (X : xT) (t a b b1 b2 y np : Nat) : bC := fun _ L ov S ss I M K z => xb_pop X S ss fun e S ss => xb_A X z e fun c => x_in X z M (X.2.2.2.1 c 8) (f_if z (X.1 (X.2.2.2.2.2.2.2.2.1 M.1 (X.2.2.2.2.2.2.1 (X.2.2.2.1 c 8) 64)).1 a) (f_if z (X.2.1 (X.2.2.2.2.2.2.2.1 b) (X.2.2.2.2.2.2.2.2.1 M.1 (X.2.2.2.2.2.2.1 (X.2.2.2.1 c 8) 64)).2.1) (xb_v X t z (X.2.2.2.2.2.2.2.2.2.1 ((X.2.2.2.2.2.2.2.2.1 M.1 (X.2.2.2.2.2.2.1 (X.2.2.2.1 c 8) 64)).2.2.get b1) b2) fun v => K y np L ov S (v :: ss) I M)))
noncomputable def xb_q (X : xT) (t : Nat) (z : Bool) (e : bE) (K : Nat → Bool) : Bool := b_if (Nat.beq t 0) (xb_I X z e K) (b_if (Nat.beq t 1) (xb_I X z e fun c => f_if z (X.2.2.2.2.2.2.2.2.2.2.2.2.2.2.2.1 c) (K c)) (b_if (Nat.beq t 2) (xb_J X z e K) (xb_A X z e K)))
noncomputable def xbs_pf (X : xT) (t a b b1 P y np : Nat) : bC := fun _ L ov S ss I M K z => xb_pop X S ss fun e S ss => xb_q X t z e fun v => xb_pop X S ss fun e S ss => xb_A X z e fun c => x_in X z M (X.2.2.2.1 c 8) (f_if z (X.1 (X.2.2.2.2.2.2.2.2.1 M.1 (X.2.2.2.2.2.2.1 (X.2.2.2.1 c 8) 64)).1 a) (f_if z (X.2.1 (X.2.2.2.2.2.2.2.1 b) (X.2.2.2.2.2.2.2.2.1 M.1 (X.2.2.2.2.2.2.1 (X.2.2.2.1 c 8) 64)).2.1) (X.2.2.2.2.2.2.2.2.2.2.2.2.2.2.2.2.2.2 z M (X.2.2.2.2.2.2.1 (X.2.2.2.1 c 8) 64) b1 P v fun M => K y np L ov S ss I M)))
noncomputable def xb_ix (X : xT) (z : Bool) (c len : Nat) (K : Bool) : Bool := f_if z (X.2.1 (X.2.2.2.2.1 c 8) (X.2.2.2.2.2.1 8 len)) (f_if z (X.2.1 c 131064) K)
noncomputable def xbs_ga (X : xT) (t : Nat) (ng : nG) (kk y np : Nat) : bC := fun _ L ov S ss I M K z => xb_pop X S ss fun e S ss => xb_I X z e fun i => xb_pop X S ss fun e S ss => @Prod.rec Nat Nat (fun _ => Bool) (fun m c => b_if (Nat.beq m 5) (f_if z (X.1 (ng (X.2.2.2.1 c 8)).1 kk) (xb_ix X z i (ng (X.2.2.2.1 c 8)).2.1 (xb_v X t z (X.2.2.2.2.2.2.2.2.2.2.1 (ng (X.2.2.2.1 c 8)).2.2 (X.2.2.2.1 i 8)) fun v => K y np L ov S (v :: ss) I M))) (xb_A X z (m, c) fun c => x_in X z M (X.2.2.2.1 c 8) (f_if z (X.1 (X.2.2.2.2.2.2.2.2.1 M.1 (X.2.2.2.2.2.2.1 (X.2.2.2.1 c 8) 64)).1 kk) (xb_ix X z i (X.2.2.2.2.2.2.2.2.1 M.1 (X.2.2.2.2.2.2.1 (X.2.2.2.1 c 8) 64)).2.1 (xb_v X t z (X.2.2.2.2.2.2.2.2.2.2.1 (X.2.2.2.2.2.2.2.2.1 M.1 (X.2.2.2.2.2.2.1 (X.2.2.2.1 c 8) 64)).2.2 (X.2.2.2.1 i 8)) fun v => K y np L ov S (v :: ss) I M))))) e
noncomputable def xbs_bl (X : xT) (y np : Nat) : bC := fun _ L ov S ss I M K z => xb_pop X S ss fun e S ss => xb_I X z e fun i => xb_pop X S ss fun e S ss => xb_A X z e fun c => x_in X z M (X.2.2.2.1 c 8) (f_if z (X.2.1 102 (X.2.2.2.2.2.2.2.2.1 M.1 (X.2.2.2.2.2.2.1 (X.2.2.2.1 c 8) 64)).1) (f_if z (X.2.1 (X.2.2.2.2.2.2.2.2.1 M.1 (X.2.2.2.2.2.2.1 (X.2.2.2.1 c 8) 64)).1 103) (xb_ix X z i (X.2.2.2.2.2.2.2.2.1 M.1 (X.2.2.2.2.2.2.1 (X.2.2.2.1 c 8) 64)).2.1 (xb_v X 0 z (X.2.2.2.2.2.2.2.2.2.2.1 (X.2.2.2.2.2.2.2.2.1 M.1 (X.2.2.2.2.2.2.1 (X.2.2.2.1 c 8) 64)).2.2 (X.2.2.2.1 i 8)) fun v => K y np L ov S (v :: ss) I M))))
noncomputable def xbs_sa (X : xT) (t kk y np : Nat) : bC := fun _ L ov S ss I M K z => xb_pop X S ss fun e S ss => xb_q X t z e fun v => xb_pop X S ss fun e S ss => xb_I X z e fun i => xb_pop X S ss fun e S ss => xb_A X z e fun c => x_in X z M (X.2.2.2.1 c 8) (f_if z (X.1 (X.2.2.2.2.2.2.2.2.1 M.1 (X.2.2.2.2.2.2.1 (X.2.2.2.1 c 8) 64)).1 kk) (xb_ix X z i (X.2.2.2.2.2.2.2.2.1 M.1 (X.2.2.2.2.2.2.1 (X.2.2.2.1 c 8) 64)).2.1 (X.2.2.2.2.2.2.2.2.2.2.2.2.2.2.2.2.2.2 z M (X.2.2.2.2.2.2.1 (X.2.2.2.1 c 8) 64) (X.2.2.2.1 (X.2.2.2.1 i 8) 64) (X.2.2.2.2.2.2.2.2.2.2.2.2.1 nW (X.2.2.1 (X.2.2.2.1 i 8) 64)) v fun M => K y np L ov S ss I M)))
noncomputable def xbs_ln (X : xT) (ng : nG) (y np : Nat) : bC := fun _ L ov S ss I M K z => xb_pop X S ss fun e S ss => @Prod.rec Nat Nat (fun _ => Bool) (fun m c => b_if (Nat.beq m 5) (f_if z (X.2.1 100 (ng (X.2.2.2.1 c 8)).1) (f_if z (X.2.1 (ng (X.2.2.2.1 c 8)).1 103) (f_if z (X.2.1 (ng (X.2.2.2.1 c 8)).2.1 16384) (K y np L ov S ((0, X.2.2.2.2.2.1 8 (ng (X.2.2.2.1 c 8)).2.1) :: ss) I M)))) (xb_A X z (m, c) fun c => x_in X z M (X.2.2.2.1 c 8) (f_if z (X.2.1 100 (X.2.2.2.2.2.2.2.2.1 M.1 (X.2.2.2.2.2.2.1 (X.2.2.2.1 c 8) 64)).1) (f_if z (X.2.1 (X.2.2.2.2.2.2.2.2.1 M.1 (X.2.2.2.2.2.2.1 (X.2.2.2.1 c 8) 64)).1 103) (f_if z (X.2.1 (X.2.2.2.2.2.2.2.2.1 M.1 (X.2.2.2.2.2.2.1 (X.2.2.2.1 c 8) 64)).2.1 16384) (K y np L ov S ((0, X.2.2.2.2.2.1 8 (X.2.2.2.2.2.2.2.2.1 M.1 (X.2.2.2.2.2.2.1 (X.2.2.2.1 c 8) 64)).2.1) :: ss) I M)))))) e
noncomputable def xb_cp (X : xT) (z : Bool) (K : Nat → List bE → Nat → bO → Nat → Bool) (t : Nat) : Nat → List bE → Nat → bO → Nat → Bool := @Nat.rec (fun _ => Nat → List bE → Nat → bO → Nat → Bool) K (fun _ ih S ss acc ov n => xb_pop X S ss fun e S ss => @Prod.rec Nat Nat (fun _ => Bool) (fun m c => b_if (Nat.beq m 1) (ih S ss (X.2.2.2.2.1 (X.2.2.2.2.2.1 (X.2.2.2.2.1 (X.2.2.2.2.2.1 acc nW) 4) nW) c) (some (0, 1, c) :: some (0, 4, 4) :: ov) (Nat.succ (Nat.succ n))) (xb_1 X z (m, c) (ih S ss (X.2.2.2.2.1 (X.2.2.2.2.2.1 acc nW) c) (some (0, m, c) :: ov) (Nat.succ n)))) e) t
noncomputable def xb_sm (X : xT) (z : Bool) (S : Nat) (ss : List bE) (K : Bool) : Bool := (@List.rec bE (fun _ => Bool) (f_if z (X.2.1 (X.2.2.2.2.2.2.2.1 S) 9394170331095332911557922387157348109502730195633279482829163886128836100458433773854795993539074812127739904) K) (fun _ r1 _ => (@List.rec bE (fun _ => Bool) (f_if z (X.2.1 (X.2.2.2.2.2.2.2.1 S) 1989292945639146568621528992587283360401824603189390869761855907572637988050133502132224) K) (fun _ r2 _ => (@List.rec bE (fun _ => Bool) (f_if z (X.2.1 (X.2.2.2.2.2.2.2.1 S) 421249166674228746791672110734681729275580381602196445017243910144) K) (fun _ r3 _ => (@List.rec bE (fun _ => Bool) (f_if z (X.2.1 (X.2.2.2.2.2.2.2.1 S) 89202980794122492566142873090593446023921664) K) (fun _ r4 _ => (@List.rec bE (fun _ => Bool) (f_if z (X.2.1 (X.2.2.2.2.2.2.2.1 S) 18889465931478580854784) K) (fun _ r5 _ => (f_if z (X.2.2.2.2.2.2.2.2.2.2.2.2.2.2.2.2.1 (xpk_S X S ss)) K)) r4)) r3)) r2)) r1)) ss)
noncomputable def xb_go (X : xT) (z : Bool) (K : bK) (b y np acc : Nat) (ov2 : bO) (d L : Nat) (ov : bO) (S : Nat) (ss : List bE) (I : List bF) (M : nM) : Bool := xb_sm X z S ss (f_if z (X.2.1 (Nat.succ I.length) d) (K b 0 acc ov2 4 [] ((y, np, L, ov, S, ss) :: I) M))
noncomputable def xbs_qs (X : xT) (b t x pad y np : Nat) : bC := fun d L ov S ss I M K z => xb_cp X z (fun S ss acc ov2 c => f_if z (Nat.beq c x) (xb_go X z K b y np acc ov2 d L ov S ss I M)) t S ss pad [] 0
noncomputable def xbs_qv (X : xT) (b t x pad cl y np : Nat) : bC := fun d L ov S ss I M K z => xb_cp X z (fun S ss acc ov2 c => f_if z (Nat.beq (Nat.succ c) x) (xb_pop X S ss fun e S ss => xb_A X z e fun p => x_in X z M (X.2.2.2.1 p 8) (f_if z (X.1 (X.2.2.2.2.2.2.2.2.1 M.1 (X.2.2.2.2.2.2.1 (X.2.2.2.1 p 8) 64)).1 cl) (xb_go X z K b y np (X.2.2.2.2.1 (X.2.2.2.2.2.1 acc nW) p) (some (0, 2, p) :: ov2) d L ov S ss I M)))) t S ss pad [] 0
noncomputable def xbs_qi (X : xT) (b t x pad y np : Nat) : bC := fun d L ov S ss I M K z => xb_cp X z (fun S ss acc ov2 c => f_if z (Nat.beq (Nat.succ c) x) (xb_pop X S ss fun e S ss => xb_A X z e fun p => f_if z (X.2.1 64 (X.2.2.2.1 p 8)) (xb_go X z K b y np (X.2.2.2.2.1 (X.2.2.2.2.2.1 acc nW) p) (some (0, 2, p) :: ov2) d L ov S ss I M))) t S ss pad [] 0
noncomputable def xbs_r0 (X : xT) : bC := fun _ _ _ S ss I M K z => @List.rec bE (fun _ => Bool) (f_if z (Nat.beq S 4) (b_up z I fun y np L ov S ss r => K y np L ov S ss r M)) (fun _ _ _ => z) ss
noncomputable def xb_rt (X : xT) (k : Nat) (z : Bool) (e : bE) (K : Nat → Bool) : Bool := b_if (Nat.beq k 1) (xb_I X z e K) (b_if (Nat.beq k 2) (xb_I X z e fun c => f_if z (X.2.2.2.2.2.2.2.2.2.2.2.2.2.2.2.1 c) (K c)) (b_if (Nat.beq k 3) (xb_J X z e K) (xb_A X z e K)))
noncomputable def xbs_r1 (X : xT) (k m : Nat) : bC := fun _ _ _ S ss I M K z => @List.rec bE (fun _ => Bool) z (fun e r _ => @List.rec bE (fun _ => Bool) (xb_rt X k z e fun c => f_if z (Nat.beq S 4) (b_up z I fun y np L ov S ss r => K y np L ov S ((m, c) :: ss) r M)) (fun _ _ _ => z) r) ss
noncomputable def xbs_1g (X : xT) (m1 m3 : Nat) (g : Nat → Nat) (y np : Nat) : bC := fun _ L ov S ss I M K z => xb_pop X S ss fun e1 S ss => xb_T X m1 z e1 fun q => f_if z (X.2.1 (X.2.2.2.2.2.2.2.1 q) 34359738368) (K y np L ov S ((m3, g q) :: ss) I M)
noncomputable def xbs_di (X : xT) (ng : nG) (y pc n a b t : Nat) (x : Int) (i : Instr) : bC × Unit := match i with
  | .iload k => (if k < dt_mx y then xbs_ld X 0 k y (pc + 2) else bs_no, ())
  | .iload_n k => (if k.val < dt_mx y then xbs_ld X 0 k.val y (pc + 1) else bs_no, ())
  | .lload k => (if k < dt_mx y then xbs_ld X 1 k y (pc + 2) else bs_no, ())
  | .lload_n k => (if k.val < dt_mx y then xbs_ld X 1 k.val y (pc + 1) else bs_no, ())
  | .aload k => (if k < dt_mx y then xbs_al X k y (pc + 2) else bs_no, ())
  | .aload_n k => (if k.val < dt_mx y then xbs_al X k.val y (pc + 1) else bs_no, ())
  | .istore k => (if k < dt_mx y then xbs_is X k y (pc + 2) else bs_no, ())
  | .istore_n k => (if k.val < dt_mx y then xbs_is X k.val y (pc + 1) else bs_no, ())
  | .astore k => (if k < dt_mx y then xbs_as X k y (pc + 2) else bs_no, ())
  | .astore_n k => (if k.val < dt_mx y then xbs_as X k.val y (pc + 1) else bs_no, ())
  | .lstore k => (if k + 1 < dt_mx y then xbs_ls X k y (pc + 2) else bs_no, ())
  | .lstore_n k => (if k.val + 1 < dt_mx y then xbs_ls X k.val y (pc + 1) else bs_no, ())
  | .iinc k m => (if k < dt_mx y then xbs_inc X k (8 * (m % 4294967296).toNat) y (pc + 3) else bs_no, ())
  | .iconst m => (if ev_w m = m then bs_c 0 (n_I m) y (pc + 1) else bs_no, ())
  | .lconst m => (bs_c 1 (8 * m.val + 1) y (pc + 1), ())
  | .bipush m => (if -128 ≤ m ∧ m ≤ 127 then bs_c 0 (n_I m) y (pc + 2) else bs_no, ())
  | .sipush m => (if -32768 ≤ m ∧ m ≤ 32767 then bs_c 0 (n_I m) y (pc + 3) else bs_no, ())
  | .iadd => (xbs_2 X 0 0 0 ng_iadd y (pc + 1), ())
  | .isub => (xbs_2 X 0 0 0 ng_isub y (pc + 1), ())
  | .imul => (xbs_2 X 0 0 0 ng_imul y (pc + 1), ())
  | .ladd => (xbs_2 X 1 1 1 ng_ladd y (pc + 1), ())
  | .lsub => (xbs_2 X 1 1 1 ng_lsub y (pc + 1), ())
  | .lmul => (xbs_2 X 1 1 1 ng_lmul y (pc + 1), ())
  | .iand => (xbs_2 X 0 0 0 ng_iand y (pc + 1), ())
  | .ior => (xbs_2 X 0 0 0 ng_ior y (pc + 1), ())
  | .ixor => (xbs_2 X 0 0 0 ng_ixor y (pc + 1), ())
  | .land => (xbs_2 X 1 1 1 ng_land y (pc + 1), ())
  | .lor => (xbs_2 X 1 1 1 ng_lor y (pc + 1), ())
  | .lxor => (xbs_2 X 1 1 1 ng_lxor y (pc + 1), ())
  | .ishl => (xbs_2 X 0 0 0 ng_ishl y (pc + 1), ())
  | .ishr => (xbs_2 X 0 0 0 ng_ishr y (pc + 1), ())
  | .iushr => (xbs_2 X 0 0 0 ng_iushr y (pc + 1), ())
  | .lshl => (xbs_2 X 0 1 1 ng_lshl y (pc + 1), ())
  | .lshr => (xbs_2 X 0 1 1 ng_lshr y (pc + 1), ())
  | .lushr => (xbs_2 X 0 1 1 ng_lushr y (pc + 1), ())
  | .lcmp => (xbs_2 X 1 1 0 ng_lcmp y (pc + 1), ())
  | .ineg => (xbs_1 X 0 0 ng_ineg y (pc + 1), ())
  | .l2i => (xbs_1 X 1 0 ng_l2i y (pc + 1), ())
  | .i2s => (xbs_1 X 0 0 ng_i2s y (pc + 1), ())
  | .i2b => (xbs_1 X 0 0 ng_i2b y (pc + 1), ())
  | .i2l => (xbs_1g X 0 1 ng_i2l y (pc + 1), ())
  | .idiv => (xbs_div X ng_dv y (pc + 1), ())
  | .irem => (xbs_div X ng_rm y (pc + 1), ())
  | .dup => (xbs_dup X y (pc + 1), ())
  | .pop => (xbs_pop X y (pc + 1), ())
  | .dup2 => (xbs_dup2 X y (pc + 1), ())
  | .ifCond c off => (if n = 3 ∧ 0 ≤ (pc : Int) + off then xbs_if X c (pc + 3) (((pc : Int) + off).toNat) y else bs_no, ())
  | .if_icmp c off => (if n = 3 ∧ 0 ≤ (pc : Int) + off then xbs_ic X c (pc + 3) (((pc : Int) + off).toNat) y else bs_no, ())
  | .goto off => (if n = 3 ∧ 0 ≤ (pc : Int) + off then bs_go (((pc : Int) + off).toNat) y else bs_no, ())
  | .ifnonnull off => (if n = 3 ∧ 0 ≤ (pc : Int) + off then xbs_nu X (pc + 3) (((pc : Int) + off).toNat) y else bs_no, ())
  | .ifnull off => (if n = 3 ∧ 0 ≤ (pc : Int) + off then xbs_nu X (((pc : Int) + off).toNat) (pc + 3) y else bs_no, ())
  | .getfield idx => (match t with
    | 0 => xbs_gf X 0 a b (b / 64) (b % 64) y (pc + n)
    | 1 => xbs_gf X 1 a b (b / 64) (b % 64) y (pc + n)
    | 2 => xbs_gf X 2 a b (b / 64) (b % 64) y (pc + n)
    | 3 => xbs_gf X 3 a b (b / 64) (b % 64) y (pc + n)
    | _ => bs_no, ())
  | .putfield idx => (match t with
    | 0 => xbs_pf X 0 a b (b / 64) (nW ^ (b % 64)) y (pc + n)
    | 1 => xbs_pf X 1 a b (b / 64) (nW ^ (b % 64)) y (pc + n)
    | 2 => xbs_pf X 2 a b (b / 64) (nW ^ (b % 64)) y (pc + n)
    | 3 => xbs_pf X 3 a b (b / 64) (nW ^ (b % 64)) y (pc + n)
    | _ => bs_no, ())
  | .iaload => (xbs_ga X 0 ng 100 y (pc + n), ())
  | .laload => (xbs_ga X 2 ng 101 y (pc + n), ())
  | .baload => (xbs_bl X y (pc + n), ())
  | .iastore => (xbs_sa X 0 100 y (pc + n), ())
  | .lastore => (xbs_sa X 2 101 y (pc + n), ())
  | .bastore => (xbs_sa X 1 103 y (pc + n), ())
  | .arraylength => (xbs_ln X ng y (pc + n), ())
  | .getstatic idx => (if a < 64 then (if 1 ≤ a then bs_c 5 (8 * a + 2) y (pc + n) else bs_no) else bs_no, ())
  | .ldc idx => (if a = 0 ∧ ev_w x = x then bs_c 0 (n_I x) y (pc + n) else bs_no, ())
  | .ldc_w idx => (if a = 0 ∧ ev_w x = x then bs_c 0 (n_I x) y (pc + n) else bs_no, ())
  | .ldc2_w idx => (if a = 1 ∧ ev_W x = x then bs_c 1 (8 * (x % 18446744073709551616).toNat + 1) y (pc + n) else bs_no, ())
  | .invokestatic idx => (if a = 2 ∧ x.toNat ≤ dt_mx b then xbs_qs X b t x.toNat (n_pad (dt_mx b - x.toNat)) y (pc + 3) else bs_no, ())
  | .invokevirtual idx => (if a = 0 ∧ x.toNat ≤ dt_mx b then xbs_qv X b t x.toNat (n_pad (dt_mx b - x.toNat)) (dt_pl b).2.2.2.2.2.2.2 y (pc + 3) else bs_no, ())
  | .invokespecial idx => (if a = 1 ∧ x.toNat ≤ dt_mx b then xbs_qi X b t x.toNat (n_pad (dt_mx b - x.toNat)) y (pc + 3) else bs_no, ())
  | .return_ => (if (dt_pl y).2.1 = 0 then xbs_r0 X else bs_no, ())
  | .ireturn => (if (dt_pl y).2.1 = 1 then xbs_r1 X 1 0 else if (dt_pl y).2.1 = 2 then xbs_r1 X 2 0 else bs_no, ())
  | .lreturn => (if (dt_pl y).2.1 = 3 then xbs_r1 X 3 1 else bs_no, ())
  | .areturn => (if (dt_pl y).2.1 = 5 then xbs_r1 X 5 3 else bs_no, ())
  | _ => (bs_no, ())
noncomputable def xb_row (X : xT) (ng : nG) (y pc : Nat) : bC × Unit := @Prod.rec Nat (Instr × Nat × (Nat × Nat × Nat × Nat) × Int) (fun _ => bC × Unit) (fun p q => @Bool.rec (fun _ => bC × Unit) (bs_no, ()) (xbs_di X ng y p q.2.1 q.2.2.1.1 q.2.2.1.2.1 q.2.2.1.2.2.1 q.2.2.2 q.1) (Nat.beq p pc)) ((dt_co y).get pc)
noncomputable def xb_last (X : xT) (ng : nG) (d : Nat) (F : List nF) (Q : nK) (z : Bool) : bK := fun y pc L ov S ss I M => X.2.2.2.2.2.2.2.2.2.2.2.2.2.2.2.2.2.1 y pc (Nat.sub d I.length) (xpk_L X L 0 ov) (xpk_S X S ss) (xpk_F X F I) M Q z
noncomputable def xb_run (X : xT) (T : Nat → Nat → Nat → Nat) (ng : nG) (d : Nat) (F : List nF) (Q : nK) (z : Bool) (n : Nat) : bK := @Nat.rec (fun _ => bK) (xb_Q X Q d F) (fun _ ih y pc L ov S ss I M => @Nat.rec (fun _ => Bool) ((xb_row X ng y pc).1 d L ov S ss I M ih z) (fun k _ => @Nat.rec (fun _ => Bool) (xb_Q X Q d F y pc L ov S ss I M) (fun _ _ => xb_last X ng d F Q z y pc L ov S ss I M) k) (T I.length y pc)) n
noncomputable def xb_blk (X : xT) (T : Nat → Nat → Nat → Nat) (ng : nG) (n y pc : Nat) : nC := fun d L S F M Q z => (xb_row X ng y pc).1 d L [] S [] [] M (xb_run X T ng d F Q z n) z
noncomputable def xR (ng : nG) : xT := (Nat.beq, Nat.ble, Nat.mod, Nat.div, Nat.add, Nat.mul, Nat.sub, Nat.succ, n_get, n_at, n_rg, n_set, Nat.pow, n_c1, n_t1, n_z, n_sm, fun y pc => (nv_row (fun _ _ => none) ng y pc).1, n_wK)
theorem xr_0 (ng : nG) : (xR ng).1 = Nat.beq := rfl
theorem xr_1 (ng : nG) : (xR ng).2.1 = Nat.ble := rfl
theorem xr_2 (ng : nG) : (xR ng).2.2.1 = Nat.mod := rfl
theorem xr_3 (ng : nG) : (xR ng).2.2.2.1 = Nat.div := rfl
theorem xr_4 (ng : nG) : (xR ng).2.2.2.2.1 = Nat.add := rfl
theorem xr_5 (ng : nG) : (xR ng).2.2.2.2.2.1 = Nat.mul := rfl
theorem xr_6 (ng : nG) : (xR ng).2.2.2.2.2.2.1 = Nat.sub := rfl
theorem xr_7 (ng : nG) : (xR ng).2.2.2.2.2.2.2.1 = Nat.succ := rfl
theorem xr_8 (ng : nG) : (xR ng).2.2.2.2.2.2.2.2.1 = n_get := rfl
theorem xr_9 (ng : nG) : (xR ng).2.2.2.2.2.2.2.2.2.1 = n_at := rfl
theorem xr_10 (ng : nG) : (xR ng).2.2.2.2.2.2.2.2.2.2.1 = n_rg := rfl
theorem xr_11 (ng : nG) : (xR ng).2.2.2.2.2.2.2.2.2.2.2.1 = n_set := rfl
theorem xr_12 (ng : nG) : (xR ng).2.2.2.2.2.2.2.2.2.2.2.2.1 = Nat.pow := rfl
theorem xr_13 (ng : nG) : (xR ng).2.2.2.2.2.2.2.2.2.2.2.2.2.1 = n_c1 := rfl
theorem xr_14 (ng : nG) : (xR ng).2.2.2.2.2.2.2.2.2.2.2.2.2.2.1 = n_t1 := rfl
theorem xr_15 (ng : nG) : (xR ng).2.2.2.2.2.2.2.2.2.2.2.2.2.2.2.1 = n_z := rfl
theorem xr_16 (ng : nG) : (xR ng).2.2.2.2.2.2.2.2.2.2.2.2.2.2.2.2.1 = n_sm := rfl
theorem xr_17 (ng : nG) (y pc : Nat) : (xR ng).2.2.2.2.2.2.2.2.2.2.2.2.2.2.2.2.2.1 y pc = (nv_row (fun _ _ => none) ng y pc).1 := rfl
theorem xr_18 (ng : nG) : (xR ng).2.2.2.2.2.2.2.2.2.2.2.2.2.2.2.2.2.2 = n_wK := rfl
theorem xe_in (g : nG) : x_in (xR g) = n_in := by
  unfold x_in n_in
  simp only [xr_0, xr_1, xr_2, xr_3, xr_4, xr_5, xr_6, xr_7, xr_8, xr_9, xr_10, xr_11, xr_12, xr_13, xr_14, xr_15, xr_16, xr_17, xr_18]
set_option maxHeartbeats 200000
theorem xe_b_loc (g : nG) : xb_loc (xR g) = b_loc := by
  unfold xb_loc b_loc
  simp only [xr_0, xr_1, xr_2, xr_3, xr_4, xr_5, xr_6, xr_7, xr_8, xr_9, xr_10, xr_11, xr_12, xr_13, xr_14, xr_15, xr_16, xr_17, xr_18]
theorem xe_pk_S (g : nG) : xpk_S (xR g) = pk_S := by
  funext S l
  induction l with
  | nil => rfl
  | cons e r ih => simp only [xpk_S, pk_S, ih, xr_0, xr_1, xr_2, xr_3, xr_4, xr_5, xr_6, xr_7, xr_8, xr_9, xr_10, xr_11, xr_12, xr_13, xr_14, xr_15, xr_16, xr_17, xr_18]
theorem xe_pk_L (g : nG) : xpk_L (xR g) = pk_L := by
  funext L k l
  induction l generalizing L k with
  | nil => rfl
  | cons e r ih => simp only [xpk_L, pk_L, ih, xr_0, xr_1, xr_2, xr_3, xr_4, xr_5, xr_6, xr_7, xr_8, xr_9, xr_10, xr_11, xr_12, xr_13, xr_14, xr_15, xr_16, xr_17, xr_18]
theorem xe_pk_f (g : nG) : xpk_f (xR g) = pk_f := by
  unfold xpk_f pk_f
  simp only [xr_0, xr_1, xr_2, xr_3, xr_4, xr_5, xr_6, xr_7, xr_8, xr_9, xr_10, xr_11, xr_12, xr_13, xr_14, xr_15, xr_16, xr_17, xr_18, xe_pk_L, xe_pk_S]
theorem xe_pk_F (g : nG) : xpk_F (xR g) = pk_F := by
  funext F l
  induction l with
  | nil => rfl
  | cons e r ih => simp only [xpk_F, pk_F, ih, xe_pk_f]
theorem xe_b_Q (g : nG) : xb_Q (xR g) = b_Q := by
  unfold xb_Q b_Q
  simp only [xr_0, xr_1, xr_2, xr_3, xr_4, xr_5, xr_6, xr_7, xr_8, xr_9, xr_10, xr_11, xr_12, xr_13, xr_14, xr_15, xr_16, xr_17, xr_18, xe_pk_L, xe_pk_S, xe_pk_F]
theorem xe_b_pop (g : nG) : xb_pop (xR g) = b_pop := by
  unfold xb_pop b_pop
  simp only [xr_0, xr_1, xr_2, xr_3, xr_4, xr_5, xr_6, xr_7, xr_8, xr_9, xr_10, xr_11, xr_12, xr_13, xr_14, xr_15, xr_16, xr_17, xr_18]
theorem xe_b_I (g : nG) : xb_I (xR g) = b_I := by
  unfold xb_I b_I
  simp only [xr_0, xr_1, xr_2, xr_3, xr_4, xr_5, xr_6, xr_7, xr_8, xr_9, xr_10, xr_11, xr_12, xr_13, xr_14, xr_15, xr_16, xr_17, xr_18]
theorem xe_b_J (g : nG) : xb_J (xR g) = b_J := by
  unfold xb_J b_J
  simp only [xr_0, xr_1, xr_2, xr_3, xr_4, xr_5, xr_6, xr_7, xr_8, xr_9, xr_10, xr_11, xr_12, xr_13, xr_14, xr_15, xr_16, xr_17, xr_18]
theorem xe_b_A (g : nG) : xb_A (xR g) = b_A := by
  unfold xb_A b_A
  simp only [xr_0, xr_1, xr_2, xr_3, xr_4, xr_5, xr_6, xr_7, xr_8, xr_9, xr_10, xr_11, xr_12, xr_13, xr_14, xr_15, xr_16, xr_17, xr_18]
theorem xe_b_N (g : nG) : xb_N (xR g) = b_N := by
  unfold xb_N b_N
  simp only [xr_0, xr_1, xr_2, xr_3, xr_4, xr_5, xr_6, xr_7, xr_8, xr_9, xr_10, xr_11, xr_12, xr_13, xr_14, xr_15, xr_16, xr_17, xr_18]
theorem xe_b_1 (g : nG) : xb_1 (xR g) = b_1 := by
  unfold xb_1 b_1
  simp only [xr_0, xr_1, xr_2, xr_3, xr_4, xr_5, xr_6, xr_7, xr_8, xr_9, xr_10, xr_11, xr_12, xr_13, xr_14, xr_15, xr_16, xr_17, xr_18]
theorem xe_b_T (g : nG) : xb_T (xR g) = b_T := by
  unfold xb_T b_T
  simp only [xr_0, xr_1, xr_2, xr_3, xr_4, xr_5, xr_6, xr_7, xr_8, xr_9, xr_10, xr_11, xr_12, xr_13, xr_14, xr_15, xr_16, xr_17, xr_18, xe_b_I, xe_b_J]
theorem xe_bs_ld (g : nG) : xbs_ld (xR g) = bs_ld := by
  unfold xbs_ld bs_ld
  simp only [xr_0, xr_1, xr_2, xr_3, xr_4, xr_5, xr_6, xr_7, xr_8, xr_9, xr_10, xr_11, xr_12, xr_13, xr_14, xr_15, xr_16, xr_17, xr_18, xe_b_T, xe_b_loc]
theorem xe_bs_al (g : nG) : xbs_al (xR g) = bs_al := by
  unfold xbs_al bs_al
  simp only [xr_0, xr_1, xr_2, xr_3, xr_4, xr_5, xr_6, xr_7, xr_8, xr_9, xr_10, xr_11, xr_12, xr_13, xr_14, xr_15, xr_16, xr_17, xr_18, xe_b_N, xe_b_loc]
theorem xe_b_pr (g : nG) : xb_pr (xR g) = b_pr := by
  unfold xb_pr b_pr
  simp only [xr_0, xr_1, xr_2, xr_3, xr_4, xr_5, xr_6, xr_7, xr_8, xr_9, xr_10, xr_11, xr_12, xr_13, xr_14, xr_15, xr_16, xr_17, xr_18, xe_b_loc]
theorem xe_bs_is (g : nG) : xbs_is (xR g) = bs_is := by
  unfold xbs_is bs_is
  simp only [xr_0, xr_1, xr_2, xr_3, xr_4, xr_5, xr_6, xr_7, xr_8, xr_9, xr_10, xr_11, xr_12, xr_13, xr_14, xr_15, xr_16, xr_17, xr_18, xe_b_pop, xe_b_I, xe_b_pr]
theorem xe_bs_as (g : nG) : xbs_as (xR g) = bs_as := by
  unfold xbs_as bs_as
  simp only [xr_0, xr_1, xr_2, xr_3, xr_4, xr_5, xr_6, xr_7, xr_8, xr_9, xr_10, xr_11, xr_12, xr_13, xr_14, xr_15, xr_16, xr_17, xr_18, xe_b_pop, xe_b_N, xe_b_pr]
theorem xe_bs_ls (g : nG) : xbs_ls (xR g) = bs_ls := by
  unfold xbs_ls bs_ls
  simp only [xr_0, xr_1, xr_2, xr_3, xr_4, xr_5, xr_6, xr_7, xr_8, xr_9, xr_10, xr_11, xr_12, xr_13, xr_14, xr_15, xr_16, xr_17, xr_18, xe_b_pop, xe_b_J, xe_b_pr]
theorem xe_bs_inc (g : nG) : xbs_inc (xR g) = bs_inc := by
  unfold xbs_inc bs_inc
  simp only [xr_0, xr_1, xr_2, xr_3, xr_4, xr_5, xr_6, xr_7, xr_8, xr_9, xr_10, xr_11, xr_12, xr_13, xr_14, xr_15, xr_16, xr_17, xr_18, xe_b_I, xe_b_loc, xe_b_pr]
theorem xe_bs_2 (g : nG) : xbs_2 (xR g) = bs_2 := by
  unfold xbs_2 bs_2
  simp only [xr_0, xr_1, xr_2, xr_3, xr_4, xr_5, xr_6, xr_7, xr_8, xr_9, xr_10, xr_11, xr_12, xr_13, xr_14, xr_15, xr_16, xr_17, xr_18, xe_b_pop, xe_b_T]
theorem xe_bs_1 (g : nG) : xbs_1 (xR g) = bs_1 := by
  unfold xbs_1 bs_1
  simp only [xr_0, xr_1, xr_2, xr_3, xr_4, xr_5, xr_6, xr_7, xr_8, xr_9, xr_10, xr_11, xr_12, xr_13, xr_14, xr_15, xr_16, xr_17, xr_18, xe_b_pop, xe_b_T]
theorem xe_bs_div (g : nG) : xbs_div (xR g) = bs_div := by
  unfold xbs_div bs_div
  simp only [xr_0, xr_1, xr_2, xr_3, xr_4, xr_5, xr_6, xr_7, xr_8, xr_9, xr_10, xr_11, xr_12, xr_13, xr_14, xr_15, xr_16, xr_17, xr_18, xe_b_pop, xe_b_I]
theorem xe_bs_dup (g : nG) : xbs_dup (xR g) = bs_dup := by
  unfold xbs_dup bs_dup
  simp only [xr_0, xr_1, xr_2, xr_3, xr_4, xr_5, xr_6, xr_7, xr_8, xr_9, xr_10, xr_11, xr_12, xr_13, xr_14, xr_15, xr_16, xr_17, xr_18, xe_b_pop, xe_b_1]
theorem xe_bs_dup2 (g : nG) : xbs_dup2 (xR g) = bs_dup2 := by
  unfold xbs_dup2 bs_dup2
  simp only [xr_0, xr_1, xr_2, xr_3, xr_4, xr_5, xr_6, xr_7, xr_8, xr_9, xr_10, xr_11, xr_12, xr_13, xr_14, xr_15, xr_16, xr_17, xr_18, xe_b_pop, xe_b_1]
theorem xe_bs_pop (g : nG) : xbs_pop (xR g) = bs_pop := by
  unfold xbs_pop bs_pop
  simp only [xr_0, xr_1, xr_2, xr_3, xr_4, xr_5, xr_6, xr_7, xr_8, xr_9, xr_10, xr_11, xr_12, xr_13, xr_14, xr_15, xr_16, xr_17, xr_18, xe_b_pop, xe_b_1]
theorem xe_b_sh (g : nG) : xb_sh (xR g) = b_sh := by
  unfold xb_sh b_sh
  simp only [xr_0, xr_1, xr_2, xr_3, xr_4, xr_5, xr_6, xr_7, xr_8, xr_9, xr_10, xr_11, xr_12, xr_13, xr_14, xr_15, xr_16, xr_17, xr_18]
theorem xe_b_w (g : nG) : xb_w (xR g) = b_w := by
  funext c p q n t
  cases c <;> simp only [xb_w, b_w, xr_0, xr_1, xr_2, xr_3, xr_4, xr_5, xr_6, xr_7, xr_8, xr_9, xr_10, xr_11, xr_12, xr_13, xr_14, xr_15, xr_16, xr_17, xr_18, xe_b_sh]
theorem xe_bs_if (g : nG) : xbs_if (xR g) = bs_if := by
  unfold xbs_if bs_if
  simp only [xr_0, xr_1, xr_2, xr_3, xr_4, xr_5, xr_6, xr_7, xr_8, xr_9, xr_10, xr_11, xr_12, xr_13, xr_14, xr_15, xr_16, xr_17, xr_18, xe_b_pop, xe_b_I, xe_b_w]
theorem xe_bs_ic (g : nG) : xbs_ic (xR g) = bs_ic := by
  unfold xbs_ic bs_ic
  simp only [xr_0, xr_1, xr_2, xr_3, xr_4, xr_5, xr_6, xr_7, xr_8, xr_9, xr_10, xr_11, xr_12, xr_13, xr_14, xr_15, xr_16, xr_17, xr_18, xe_b_pop, xe_b_I, xe_b_w]
theorem xe_bs_nu (g : nG) : xbs_nu (xR g) = bs_nu := by
  unfold xbs_nu bs_nu
  simp only [xr_0, xr_1, xr_2, xr_3, xr_4, xr_5, xr_6, xr_7, xr_8, xr_9, xr_10, xr_11, xr_12, xr_13, xr_14, xr_15, xr_16, xr_17, xr_18, xe_b_pop, xe_b_A]
theorem xe_b_v (g : nG) : xb_v (xR g) = b_v := by
  unfold xb_v b_v
  simp only [xr_0, xr_1, xr_2, xr_3, xr_4, xr_5, xr_6, xr_7, xr_8, xr_9, xr_10, xr_11, xr_12, xr_13, xr_14, xr_15, xr_16, xr_17, xr_18]
theorem xe_bs_gf (g : nG) : xbs_gf (xR g) = bs_gf := by
  unfold xbs_gf bs_gf
  simp only [xr_0, xr_1, xr_2, xr_3, xr_4, xr_5, xr_6, xr_7, xr_8, xr_9, xr_10, xr_11, xr_12, xr_13, xr_14, xr_15, xr_16, xr_17, xr_18, xe_in, xe_b_pop, xe_b_A, xe_b_v]
theorem xe_b_q (g : nG) : xb_q (xR g) = b_q := by
  unfold xb_q b_q
  simp only [xr_0, xr_1, xr_2, xr_3, xr_4, xr_5, xr_6, xr_7, xr_8, xr_9, xr_10, xr_11, xr_12, xr_13, xr_14, xr_15, xr_16, xr_17, xr_18, xe_b_I, xe_b_J, xe_b_A]
theorem xe_bs_pf (g : nG) : xbs_pf (xR g) = bs_pf := by
  unfold xbs_pf bs_pf
  simp only [xr_0, xr_1, xr_2, xr_3, xr_4, xr_5, xr_6, xr_7, xr_8, xr_9, xr_10, xr_11, xr_12, xr_13, xr_14, xr_15, xr_16, xr_17, xr_18, xe_in, xe_b_pop, xe_b_q, xe_b_A]
theorem xe_b_ix (g : nG) : xb_ix (xR g) = b_ix := by
  unfold xb_ix b_ix
  simp only [xr_0, xr_1, xr_2, xr_3, xr_4, xr_5, xr_6, xr_7, xr_8, xr_9, xr_10, xr_11, xr_12, xr_13, xr_14, xr_15, xr_16, xr_17, xr_18]
theorem xe_bs_ga (g : nG) : xbs_ga (xR g) = bs_ga := by
  unfold xbs_ga bs_ga
  simp only [xr_0, xr_1, xr_2, xr_3, xr_4, xr_5, xr_6, xr_7, xr_8, xr_9, xr_10, xr_11, xr_12, xr_13, xr_14, xr_15, xr_16, xr_17, xr_18, xe_in, xe_b_pop, xe_b_I, xe_b_ix, xe_b_v, xe_b_A]
theorem xe_bs_bl (g : nG) : xbs_bl (xR g) = bs_bl := by
  unfold xbs_bl bs_bl
  simp only [xr_0, xr_1, xr_2, xr_3, xr_4, xr_5, xr_6, xr_7, xr_8, xr_9, xr_10, xr_11, xr_12, xr_13, xr_14, xr_15, xr_16, xr_17, xr_18, xe_in, xe_b_pop, xe_b_I, xe_b_A, xe_b_ix, xe_b_v]
theorem xe_bs_sa (g : nG) : xbs_sa (xR g) = bs_sa := by
  unfold xbs_sa bs_sa
  simp only [xr_0, xr_1, xr_2, xr_3, xr_4, xr_5, xr_6, xr_7, xr_8, xr_9, xr_10, xr_11, xr_12, xr_13, xr_14, xr_15, xr_16, xr_17, xr_18, xe_in, xe_b_pop, xe_b_q, xe_b_I, xe_b_A, xe_b_ix]
theorem xe_bs_ln (g : nG) : xbs_ln (xR g) = bs_ln := by
  unfold xbs_ln bs_ln
  simp only [xr_0, xr_1, xr_2, xr_3, xr_4, xr_5, xr_6, xr_7, xr_8, xr_9, xr_10, xr_11, xr_12, xr_13, xr_14, xr_15, xr_16, xr_17, xr_18, xe_in, xe_b_pop, xe_b_A]
theorem xe_b_cp (g : nG) : xb_cp (xR g) = b_cp := by
  unfold xb_cp b_cp
  simp only [xr_0, xr_1, xr_2, xr_3, xr_4, xr_5, xr_6, xr_7, xr_8, xr_9, xr_10, xr_11, xr_12, xr_13, xr_14, xr_15, xr_16, xr_17, xr_18, xe_b_pop, xe_b_1]
theorem xe_b_sm (g : nG) : xb_sm (xR g) = b_sm := by
  unfold xb_sm b_sm
  simp only [xr_0, xr_1, xr_2, xr_3, xr_4, xr_5, xr_6, xr_7, xr_8, xr_9, xr_10, xr_11, xr_12, xr_13, xr_14, xr_15, xr_16, xr_17, xr_18, xe_pk_S]
theorem xe_b_go (g : nG) : xb_go (xR g) = b_go := by
  unfold xb_go b_go
  simp only [xr_0, xr_1, xr_2, xr_3, xr_4, xr_5, xr_6, xr_7, xr_8, xr_9, xr_10, xr_11, xr_12, xr_13, xr_14, xr_15, xr_16, xr_17, xr_18, xe_b_sm]
theorem xe_bs_qs (g : nG) : xbs_qs (xR g) = bs_qs := by
  unfold xbs_qs bs_qs
  simp only [xr_0, xr_1, xr_2, xr_3, xr_4, xr_5, xr_6, xr_7, xr_8, xr_9, xr_10, xr_11, xr_12, xr_13, xr_14, xr_15, xr_16, xr_17, xr_18, xe_b_cp, xe_b_go]
theorem xe_bs_qv (g : nG) : xbs_qv (xR g) = bs_qv := by
  unfold xbs_qv bs_qv
  simp only [xr_0, xr_1, xr_2, xr_3, xr_4, xr_5, xr_6, xr_7, xr_8, xr_9, xr_10, xr_11, xr_12, xr_13, xr_14, xr_15, xr_16, xr_17, xr_18, xe_in, xe_b_cp, xe_b_pop, xe_b_A, xe_b_go]
theorem xe_bs_qi (g : nG) : xbs_qi (xR g) = bs_qi := by
  unfold xbs_qi bs_qi
  simp only [xr_0, xr_1, xr_2, xr_3, xr_4, xr_5, xr_6, xr_7, xr_8, xr_9, xr_10, xr_11, xr_12, xr_13, xr_14, xr_15, xr_16, xr_17, xr_18, xe_b_cp, xe_b_pop, xe_b_A, xe_b_go]
theorem xe_bs_r0 (g : nG) : xbs_r0 (xR g) = bs_r0 := by
  unfold xbs_r0 bs_r0
  simp only [xr_0, xr_1, xr_2, xr_3, xr_4, xr_5, xr_6, xr_7, xr_8, xr_9, xr_10, xr_11, xr_12, xr_13, xr_14, xr_15, xr_16, xr_17, xr_18]
theorem xe_b_rt (g : nG) : xb_rt (xR g) = b_rt := by
  unfold xb_rt b_rt
  simp only [xr_0, xr_1, xr_2, xr_3, xr_4, xr_5, xr_6, xr_7, xr_8, xr_9, xr_10, xr_11, xr_12, xr_13, xr_14, xr_15, xr_16, xr_17, xr_18, xe_b_I, xe_b_J, xe_b_A]
theorem xe_bs_r1 (g : nG) : xbs_r1 (xR g) = bs_r1 := by
  unfold xbs_r1 bs_r1
  simp only [xr_0, xr_1, xr_2, xr_3, xr_4, xr_5, xr_6, xr_7, xr_8, xr_9, xr_10, xr_11, xr_12, xr_13, xr_14, xr_15, xr_16, xr_17, xr_18, xe_b_rt]
theorem xe_bs_1g (g : nG) : xbs_1g (xR g) = bs_1g := by
  unfold xbs_1g bs_1g
  simp only [xr_0, xr_1, xr_2, xr_3, xr_4, xr_5, xr_6, xr_7, xr_8, xr_9, xr_10, xr_11, xr_12, xr_13, xr_14, xr_15, xr_16, xr_17, xr_18, xe_b_pop, xe_b_T]
set_option maxHeartbeats 4000000 in
theorem xe_bs_di (g : nG) : xbs_di (xR g) = bs_di := by
  funext ng y pc n a b t x i
  cases i <;> simp only [xbs_di, bs_di, xr_0, xr_1, xr_2, xr_3, xr_4, xr_5, xr_6, xr_7, xr_8, xr_9, xr_10, xr_11, xr_12, xr_13, xr_14, xr_15, xr_16, xr_17, xr_18, xe_bs_ld, xe_bs_al, xe_bs_is, xe_bs_as, xe_bs_ls, xe_bs_inc, xe_bs_2, xe_bs_1, xe_bs_1g, xe_bs_div, xe_bs_dup, xe_bs_pop, xe_bs_dup2, xe_bs_if, xe_bs_ic, xe_bs_nu, xe_bs_gf, xe_bs_pf, xe_bs_ga, xe_bs_bl, xe_bs_sa, xe_bs_ln, xe_bs_qs, xe_bs_qv, xe_bs_qi, xe_bs_r0, xe_bs_r1]
  all_goals rfl
theorem xe_b_row (g : nG) : xb_row (xR g) = b_row := by
  unfold xb_row b_row
  simp only [xr_0, xr_1, xr_2, xr_3, xr_4, xr_5, xr_6, xr_7, xr_8, xr_9, xr_10, xr_11, xr_12, xr_13, xr_14, xr_15, xr_16, xr_17, xr_18, xe_bs_di]
theorem xe_b_last (g : nG) : xb_last (xR g) g = b_last g := by
  unfold xb_last b_last
  simp only [xr_0, xr_1, xr_2, xr_3, xr_4, xr_5, xr_6, xr_7, xr_8, xr_9, xr_10, xr_11, xr_12, xr_13, xr_14, xr_15, xr_16, xr_17, xr_18, xe_pk_L, xe_pk_S, xe_pk_F]
theorem xe_b_run (T : Nat → Nat → Nat → Nat) (g : nG) : xb_run (xR g) T g = b_run T g := by
  unfold xb_run b_run
  simp only [xe_b_row, xe_b_last, xe_b_Q]
theorem xe_b_blk (T : Nat → Nat → Nat → Nat) (g : nG) : xb_blk (xR g) T g = b_blk T g := by
  unfold xb_blk b_blk
  simp only [xe_b_row, xe_b_run]
