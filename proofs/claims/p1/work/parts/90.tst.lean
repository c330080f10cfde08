noncomputable def ts_R (a b : Nat) : Nat → Nat → Option sR := fun y pc => @Bool.rec (fun _ => Option sR) none (@Bool.rec (fun _ => Option sR) none (some (fun _ _ => some [])) (Nat.beq pc b)) (Nat.beq y a)
set_option maxRecDepth 100000 in
theorem ts_1 : fv_ap (fv (ts_R 0 7) (dt_sg 0) 4096 1000000 100000 dt_B0) dt_S0 = true := by decide +kernel
