/-! METHODS AS FUNCTIONS OF NUMBERS: the rows of code, walked -/
theorem v_eq_t {fg : eG} {rc : eQ} {d y pc : Nat} {x : Int} {lv : List (Option eV)} {st : List eV} {F : List eFr} {μ : eM} {z : Nat × Nat × Nat × Nat} {a b t1 : Nat} {off : Int} (hr : (dt_co y).get pc = (pc, .if_icmp .eq off, 3, z, x)) (h1 : (pc : Int) + off = (t1 : Int)) (g : z_eq a b = true) (K : ex_q fg rc (d, (y, t1, lv, st), F, μ)) : ex_q fg rc (d, (y, pc, lv, eI (zI b) :: eI (zI a) :: st), F, μ) := by
  have q := z_eq_t g
  refine w_j hr rfl (h_bt h1 ?_) K
  rw [zI_w, zI_w]
  exact q
theorem v_eq_f {fg : eG} {rc : eQ} {d y pc : Nat} {x : Int} {lv : List (Option eV)} {st : List eV} {F : List eFr} {μ : eM} {z : Nat × Nat × Nat × Nat} {a b t1 : Nat} {off : Int} (hr : (dt_co y).get pc = (pc, .if_icmp .eq off, 3, z, x)) (h1 : (pc : Int) + off = (t1 : Int)) (g : z_eq a b = false) (K : ex_q fg rc (d, (y, pc + 3, lv, st), F, μ)) : ex_q fg rc (d, (y, pc, lv, eI (zI b) :: eI (zI a) :: st), F, μ) := by
  have q := z_eq_f g
  refine w_j hr rfl (h_bf h1 ?_) K
  rw [zI_w, zI_w]
  exact q
theorem v_ne_t {fg : eG} {rc : eQ} {d y pc : Nat} {x : Int} {lv : List (Option eV)} {st : List eV} {F : List eFr} {μ : eM} {z : Nat × Nat × Nat × Nat} {a b t1 : Nat} {off : Int} (hr : (dt_co y).get pc = (pc, .if_icmp .ne off, 3, z, x)) (h1 : (pc : Int) + off = (t1 : Int)) (g : z_eq a b = false) (K : ex_q fg rc (d, (y, t1, lv, st), F, μ)) : ex_q fg rc (d, (y, pc, lv, eI (zI b) :: eI (zI a) :: st), F, μ) := by
  have q := z_eq_f g
  refine w_j hr rfl (h_bt h1 ?_) K
  rw [zI_w, zI_w]
  exact q
theorem v_ne_f {fg : eG} {rc : eQ} {d y pc : Nat} {x : Int} {lv : List (Option eV)} {st : List eV} {F : List eFr} {μ : eM} {z : Nat × Nat × Nat × Nat} {a b t1 : Nat} {off : Int} (hr : (dt_co y).get pc = (pc, .if_icmp .ne off, 3, z, x)) (h1 : (pc : Int) + off = (t1 : Int)) (g : z_eq a b = true) (K : ex_q fg rc (d, (y, pc + 3, lv, st), F, μ)) : ex_q fg rc (d, (y, pc, lv, eI (zI b) :: eI (zI a) :: st), F, μ) := by
  have q := z_eq_t g
  refine w_j hr rfl (h_bf h1 ?_) K
  rw [zI_w, zI_w]
  exact fun r => r q
theorem v_lt_t {fg : eG} {rc : eQ} {d y pc : Nat} {x : Int} {lv : List (Option eV)} {st : List eV} {F : List eFr} {μ : eM} {z : Nat × Nat × Nat × Nat} {a b t1 : Nat} {off : Int} (hr : (dt_co y).get pc = (pc, .if_icmp .lt off, 3, z, x)) (h1 : (pc : Int) + off = (t1 : Int)) (g : z_lt a b = true) (K : ex_q fg rc (d, (y, t1, lv, st), F, μ)) : ex_q fg rc (d, (y, pc, lv, eI (zI b) :: eI (zI a) :: st), F, μ) := by
  have q := z_lt_t g
  refine w_j hr rfl (h_bt h1 ?_) K
  rw [zI_w, zI_w]
  exact q
theorem v_lt_f {fg : eG} {rc : eQ} {d y pc : Nat} {x : Int} {lv : List (Option eV)} {st : List eV} {F : List eFr} {μ : eM} {z : Nat × Nat × Nat × Nat} {a b t1 : Nat} {off : Int} (hr : (dt_co y).get pc = (pc, .if_icmp .lt off, 3, z, x)) (h1 : (pc : Int) + off = (t1 : Int)) (g : z_lt a b = false) (K : ex_q fg rc (d, (y, pc + 3, lv, st), F, μ)) : ex_q fg rc (d, (y, pc, lv, eI (zI b) :: eI (zI a) :: st), F, μ) := by
  have q := z_lt_f g
  refine w_j hr rfl (h_bf h1 ?_) K
  rw [zI_w, zI_w]
  exact q
theorem v_ge_t {fg : eG} {rc : eQ} {d y pc : Nat} {x : Int} {lv : List (Option eV)} {st : List eV} {F : List eFr} {μ : eM} {z : Nat × Nat × Nat × Nat} {a b t1 : Nat} {off : Int} (hr : (dt_co y).get pc = (pc, .if_icmp .ge off, 3, z, x)) (h1 : (pc : Int) + off = (t1 : Int)) (g : z_lt a b = false) (K : ex_q fg rc (d, (y, t1, lv, st), F, μ)) : ex_q fg rc (d, (y, pc, lv, eI (zI b) :: eI (zI a) :: st), F, μ) := by
  have q := z_lt_f g
  refine w_j hr rfl (h_bt h1 ?_) K
  rw [zI_w, zI_w]
  omega
theorem v_ge_f {fg : eG} {rc : eQ} {d y pc : Nat} {x : Int} {lv : List (Option eV)} {st : List eV} {F : List eFr} {μ : eM} {z : Nat × Nat × Nat × Nat} {a b t1 : Nat} {off : Int} (hr : (dt_co y).get pc = (pc, .if_icmp .ge off, 3, z, x)) (h1 : (pc : Int) + off = (t1 : Int)) (g : z_lt a b = true) (K : ex_q fg rc (d, (y, pc + 3, lv, st), F, μ)) : ex_q fg rc (d, (y, pc, lv, eI (zI b) :: eI (zI a) :: st), F, μ) := by
  have q := z_lt_t g
  refine w_j hr rfl (h_bf h1 ?_) K
  rw [zI_w, zI_w]
  omega
theorem v_gt_t {fg : eG} {rc : eQ} {d y pc : Nat} {x : Int} {lv : List (Option eV)} {st : List eV} {F : List eFr} {μ : eM} {z : Nat × Nat × Nat × Nat} {a b t1 : Nat} {off : Int} (hr : (dt_co y).get pc = (pc, .if_icmp .gt off, 3, z, x)) (h1 : (pc : Int) + off = (t1 : Int)) (g : z_lt b a = true) (K : ex_q fg rc (d, (y, t1, lv, st), F, μ)) : ex_q fg rc (d, (y, pc, lv, eI (zI b) :: eI (zI a) :: st), F, μ) := by
  have q := z_lt_t g
  refine w_j hr rfl (h_bt h1 ?_) K
  rw [zI_w, zI_w]
  exact q
theorem v_gt_f {fg : eG} {rc : eQ} {d y pc : Nat} {x : Int} {lv : List (Option eV)} {st : List eV} {F : List eFr} {μ : eM} {z : Nat × Nat × Nat × Nat} {a b t1 : Nat} {off : Int} (hr : (dt_co y).get pc = (pc, .if_icmp .gt off, 3, z, x)) (h1 : (pc : Int) + off = (t1 : Int)) (g : z_lt b a = false) (K : ex_q fg rc (d, (y, pc + 3, lv, st), F, μ)) : ex_q fg rc (d, (y, pc, lv, eI (zI b) :: eI (zI a) :: st), F, μ) := by
  have q := z_lt_f g
  refine w_j hr rfl (h_bf h1 ?_) K
  rw [zI_w, zI_w]
  exact q
theorem v_le_t {fg : eG} {rc : eQ} {d y pc : Nat} {x : Int} {lv : List (Option eV)} {st : List eV} {F : List eFr} {μ : eM} {z : Nat × Nat × Nat × Nat} {a b t1 : Nat} {off : Int} (hr : (dt_co y).get pc = (pc, .if_icmp .le off, 3, z, x)) (h1 : (pc : Int) + off = (t1 : Int)) (g : z_lt b a = false) (K : ex_q fg rc (d, (y, t1, lv, st), F, μ)) : ex_q fg rc (d, (y, pc, lv, eI (zI b) :: eI (zI a) :: st), F, μ) := by
  have q := z_lt_f g
  refine w_j hr rfl (h_bt h1 ?_) K
  rw [zI_w, zI_w]
  omega
theorem v_le_f {fg : eG} {rc : eQ} {d y pc : Nat} {x : Int} {lv : List (Option eV)} {st : List eV} {F : List eFr} {μ : eM} {z : Nat × Nat × Nat × Nat} {a b t1 : Nat} {off : Int} (hr : (dt_co y).get pc = (pc, .if_icmp .le off, 3, z, x)) (h1 : (pc : Int) + off = (t1 : Int)) (g : z_lt b a = true) (K : ex_q fg rc (d, (y, pc + 3, lv, st), F, μ)) : ex_q fg rc (d, (y, pc, lv, eI (zI b) :: eI (zI a) :: st), F, μ) := by
  have q := z_lt_t g
  refine w_j hr rfl (h_bf h1 ?_) K
  rw [zI_w, zI_w]
  omega
theorem v_eq0_t {fg : eG} {rc : eQ} {d y pc : Nat} {x : Int} {lv : List (Option eV)} {st : List eV} {F : List eFr} {μ : eM} {z : Nat × Nat × Nat × Nat} {a t1 : Nat} {off : Int} (hr : (dt_co y).get pc = (pc, .ifCond .eq off, 3, z, x)) (h1 : (pc : Int) + off = (t1 : Int)) (g : z_e0 a = true) (K : ex_q fg rc (d, (y, t1, lv, st), F, μ)) : ex_q fg rc (d, (y, pc, lv, eI (zI a) :: st), F, μ) := by
  have q := z_e0_t g
  refine w_j hr rfl (h_bt h1 ?_) K
  rw [zI_w]
  exact q
theorem v_eq0_f {fg : eG} {rc : eQ} {d y pc : Nat} {x : Int} {lv : List (Option eV)} {st : List eV} {F : List eFr} {μ : eM} {z : Nat × Nat × Nat × Nat} {a t1 : Nat} {off : Int} (hr : (dt_co y).get pc = (pc, .ifCond .eq off, 3, z, x)) (h1 : (pc : Int) + off = (t1 : Int)) (g : z_e0 a = false) (K : ex_q fg rc (d, (y, pc + 3, lv, st), F, μ)) : ex_q fg rc (d, (y, pc, lv, eI (zI a) :: st), F, μ) := by
  have q := z_e0_f g
  refine w_j hr rfl (h_bf h1 ?_) K
  rw [zI_w]
  exact q
theorem v_ne0_t {fg : eG} {rc : eQ} {d y pc : Nat} {x : Int} {lv : List (Option eV)} {st : List eV} {F : List eFr} {μ : eM} {z : Nat × Nat × Nat × Nat} {a t1 : Nat} {off : Int} (hr : (dt_co y).get pc = (pc, .ifCond .ne off, 3, z, x)) (h1 : (pc : Int) + off = (t1 : Int)) (g : z_e0 a = false) (K : ex_q fg rc (d, (y, t1, lv, st), F, μ)) : ex_q fg rc (d, (y, pc, lv, eI (zI a) :: st), F, μ) := by
  have q := z_e0_f g
  refine w_j hr rfl (h_bt h1 ?_) K
  rw [zI_w]
  exact q
theorem v_ne0_f {fg : eG} {rc : eQ} {d y pc : Nat} {x : Int} {lv : List (Option eV)} {st : List eV} {F : List eFr} {μ : eM} {z : Nat × Nat × Nat × Nat} {a t1 : Nat} {off : Int} (hr : (dt_co y).get pc = (pc, .ifCond .ne off, 3, z, x)) (h1 : (pc : Int) + off = (t1 : Int)) (g : z_e0 a = true) (K : ex_q fg rc (d, (y, pc + 3, lv, st), F, μ)) : ex_q fg rc (d, (y, pc, lv, eI (zI a) :: st), F, μ) := by
  have q := z_e0_t g
  refine w_j hr rfl (h_bf h1 ?_) K
  rw [zI_w]
  exact fun r => r q
theorem v_lt0_t {fg : eG} {rc : eQ} {d y pc : Nat} {x : Int} {lv : List (Option eV)} {st : List eV} {F : List eFr} {μ : eM} {z : Nat × Nat × Nat × Nat} {a t1 : Nat} {off : Int} (hr : (dt_co y).get pc = (pc, .ifCond .lt off, 3, z, x)) (h1 : (pc : Int) + off = (t1 : Int)) (g : z_l0 a = true) (K : ex_q fg rc (d, (y, t1, lv, st), F, μ)) : ex_q fg rc (d, (y, pc, lv, eI (zI a) :: st), F, μ) := by
  have q := z_l0_t g
  refine w_j hr rfl (h_bt h1 ?_) K
  rw [zI_w]
  exact q
theorem v_lt0_f {fg : eG} {rc : eQ} {d y pc : Nat} {x : Int} {lv : List (Option eV)} {st : List eV} {F : List eFr} {μ : eM} {z : Nat × Nat × Nat × Nat} {a t1 : Nat} {off : Int} (hr : (dt_co y).get pc = (pc, .ifCond .lt off, 3, z, x)) (h1 : (pc : Int) + off = (t1 : Int)) (g : z_l0 a = false) (K : ex_q fg rc (d, (y, pc + 3, lv, st), F, μ)) : ex_q fg rc (d, (y, pc, lv, eI (zI a) :: st), F, μ) := by
  have q := z_l0_f g
  refine w_j hr rfl (h_bf h1 ?_) K
  rw [zI_w]
  exact q
theorem v_ge0_t {fg : eG} {rc : eQ} {d y pc : Nat} {x : Int} {lv : List (Option eV)} {st : List eV} {F : List eFr} {μ : eM} {z : Nat × Nat × Nat × Nat} {a t1 : Nat} {off : Int} (hr : (dt_co y).get pc = (pc, .ifCond .ge off, 3, z, x)) (h1 : (pc : Int) + off = (t1 : Int)) (g : z_l0 a = false) (K : ex_q fg rc (d, (y, t1, lv, st), F, μ)) : ex_q fg rc (d, (y, pc, lv, eI (zI a) :: st), F, μ) := by
  have q := z_l0_f g
  refine w_j hr rfl (h_bt h1 ?_) K
  rw [zI_w]
  omega
theorem v_ge0_f {fg : eG} {rc : eQ} {d y pc : Nat} {x : Int} {lv : List (Option eV)} {st : List eV} {F : List eFr} {μ : eM} {z : Nat × Nat × Nat × Nat} {a t1 : Nat} {off : Int} (hr : (dt_co y).get pc = (pc, .ifCond .ge off, 3, z, x)) (h1 : (pc : Int) + off = (t1 : Int)) (g : z_l0 a = true) (K : ex_q fg rc (d, (y, pc + 3, lv, st), F, μ)) : ex_q fg rc (d, (y, pc, lv, eI (zI a) :: st), F, μ) := by
  have q := z_l0_t g
  refine w_j hr rfl (h_bf h1 ?_) K
  rw [zI_w]
  omega
theorem v_gt0_t {fg : eG} {rc : eQ} {d y pc : Nat} {x : Int} {lv : List (Option eV)} {st : List eV} {F : List eFr} {μ : eM} {z : Nat × Nat × Nat × Nat} {a t1 : Nat} {off : Int} (hr : (dt_co y).get pc = (pc, .ifCond .gt off, 3, z, x)) (h1 : (pc : Int) + off = (t1 : Int)) (g : z_lt 0 a = true) (K : ex_q fg rc (d, (y, t1, lv, st), F, μ)) : ex_q fg rc (d, (y, pc, lv, eI (zI a) :: st), F, μ) := by
  have q := z_lt_t g
  rw [z_c0] at q
  refine w_j hr rfl (h_bt h1 ?_) K
  rw [zI_w]
  exact q
theorem v_gt0_f {fg : eG} {rc : eQ} {d y pc : Nat} {x : Int} {lv : List (Option eV)} {st : List eV} {F : List eFr} {μ : eM} {z : Nat × Nat × Nat × Nat} {a t1 : Nat} {off : Int} (hr : (dt_co y).get pc = (pc, .ifCond .gt off, 3, z, x)) (h1 : (pc : Int) + off = (t1 : Int)) (g : z_lt 0 a = false) (K : ex_q fg rc (d, (y, pc + 3, lv, st), F, μ)) : ex_q fg rc (d, (y, pc, lv, eI (zI a) :: st), F, μ) := by
  have q := z_lt_f g
  rw [z_c0] at q
  refine w_j hr rfl (h_bf h1 ?_) K
  rw [zI_w]
  exact q
theorem v_le0_t {fg : eG} {rc : eQ} {d y pc : Nat} {x : Int} {lv : List (Option eV)} {st : List eV} {F : List eFr} {μ : eM} {z : Nat × Nat × Nat × Nat} {a t1 : Nat} {off : Int} (hr : (dt_co y).get pc = (pc, .ifCond .le off, 3, z, x)) (h1 : (pc : Int) + off = (t1 : Int)) (g : z_lt 0 a = false) (K : ex_q fg rc (d, (y, t1, lv, st), F, μ)) : ex_q fg rc (d, (y, pc, lv, eI (zI a) :: st), F, μ) := by
  have q := z_lt_f g
  rw [z_c0] at q
  refine w_j hr rfl (h_bt h1 ?_) K
  rw [zI_w]
  omega
theorem v_le0_f {fg : eG} {rc : eQ} {d y pc : Nat} {x : Int} {lv : List (Option eV)} {st : List eV} {F : List eFr} {μ : eM} {z : Nat × Nat × Nat × Nat} {a t1 : Nat} {off : Int} (hr : (dt_co y).get pc = (pc, .ifCond .le off, 3, z, x)) (h1 : (pc : Int) + off = (t1 : Int)) (g : z_lt 0 a = true) (K : ex_q fg rc (d, (y, pc + 3, lv, st), F, μ)) : ex_q fg rc (d, (y, pc, lv, eI (zI a) :: st), F, μ) := by
  have q := z_lt_t g
  rw [z_c0] at q
  refine w_j hr rfl (h_bf h1 ?_) K
  rw [zI_w]
  omega
theorem v_nu_t {fg : eG} {rc : eQ} {d y pc : Nat} {x : Int} {lv : List (Option eV)} {st : List eV} {F : List eFr} {μ : eM} {z : Nat × Nat × Nat × Nat} {r t1 : Nat} {off : Int} (hr : (dt_co y).get pc = (pc, .ifnull off, 3, z, x)) (h1 : (pc : Int) + off = (t1 : Int)) (g : Nat.beq r 0 = true) (K : ex_q fg rc (d, (y, t1, lv, st), F, μ)) : ex_q fg rc (d, (y, pc, lv, eR r :: st), F, μ) := by
  have q : r = 0 := Nat.eq_of_beq_eq_true g
  exact w_j hr rfl (h_bt (b := r = 0) h1 q) K
theorem v_nu_f {fg : eG} {rc : eQ} {d y pc : Nat} {x : Int} {lv : List (Option eV)} {st : List eV} {F : List eFr} {μ : eM} {z : Nat × Nat × Nat × Nat} {r t1 : Nat} {off : Int} (hr : (dt_co y).get pc = (pc, .ifnull off, 3, z, x)) (h1 : (pc : Int) + off = (t1 : Int)) (g : Nat.beq r 0 = false) (K : ex_q fg rc (d, (y, pc + 3, lv, st), F, μ)) : ex_q fg rc (d, (y, pc, lv, eR r :: st), F, μ) := by
  have q : ¬ r = 0 := z_bne g
  exact w_j hr rfl (h_bf (b := r = 0) h1 q) K
theorem v_nn_t {fg : eG} {rc : eQ} {d y pc : Nat} {x : Int} {lv : List (Option eV)} {st : List eV} {F : List eFr} {μ : eM} {z : Nat × Nat × Nat × Nat} {r t1 : Nat} {off : Int} (hr : (dt_co y).get pc = (pc, .ifnonnull off, 3, z, x)) (h1 : (pc : Int) + off = (t1 : Int)) (g : Nat.beq r 0 = false) (K : ex_q fg rc (d, (y, t1, lv, st), F, μ)) : ex_q fg rc (d, (y, pc, lv, eR r :: st), F, μ) := by
  have q : ¬ r = 0 := z_bne g
  exact w_j hr rfl (h_bt (b := ¬ r = 0) h1 q) K
theorem v_nn_f {fg : eG} {rc : eQ} {d y pc : Nat} {x : Int} {lv : List (Option eV)} {st : List eV} {F : List eFr} {μ : eM} {z : Nat × Nat × Nat × Nat} {r t1 : Nat} {off : Int} (hr : (dt_co y).get pc = (pc, .ifnonnull off, 3, z, x)) (h1 : (pc : Int) + off = (t1 : Int)) (g : Nat.beq r 0 = true) (K : ex_q fg rc (d, (y, pc + 3, lv, st), F, μ)) : ex_q fg rc (d, (y, pc, lv, eR r :: st), F, μ) := by
  have q : r = 0 := Nat.eq_of_beq_eq_true g
  exact w_j hr rfl (h_bf (b := ¬ r = 0) h1 (fun k => k q)) K
theorem v_gf0 {fg : eG} {rc : eQ} {d y pc : Nat} {x : Int} {lv : List (Option eV)} {st : List eV} {F : List eFr} {μ : eM} {np r a b pl idx v : Nat} (hr : (dt_co y).get pc = (pc, .getfield idx, 3, (a, b, 0, pl), x)) (hp : pc + 3 = np) (hk : ev_kd μ r = some a) (e : μ.1 r b = y_dec 0 v) (K : ex_q fg rc (d, (y, np, lv, eI (zI v) :: st), F, μ)) : ex_q fg rc (d, (y, pc, lv, eR r :: st), F, μ) := w_gf hr hp hk (by rw [e]; rfl) K
theorem v_gf1 {fg : eG} {rc : eQ} {d y pc : Nat} {x : Int} {lv : List (Option eV)} {st : List eV} {F : List eFr} {μ : eM} {np r a b pl idx v : Nat} (hr : (dt_co y).get pc = (pc, .getfield idx, 3, (a, b, 1, pl), x)) (hp : pc + 3 = np) (hk : ev_kd μ r = some a) (e : μ.1 r b = y_dec 1 v) (K : ex_q fg rc (d, (y, np, lv, eI (zI v) :: st), F, μ)) : ex_q fg rc (d, (y, pc, lv, eR r :: st), F, μ) := w_gf hr hp hk (by rw [e]; rfl) K
theorem v_gf2 {fg : eG} {rc : eQ} {d y pc : Nat} {x : Int} {lv : List (Option eV)} {st : List eV} {F : List eFr} {μ : eM} {np r a b pl idx v : Nat} (hr : (dt_co y).get pc = (pc, .getfield idx, 3, (a, b, 2, pl), x)) (hp : pc + 3 = np) (hk : ev_kd μ r = some a) (e : μ.1 r b = y_dec 2 v) (K : ex_q fg rc (d, (y, np, lv, eJ (zJ v) :: st), F, μ)) : ex_q fg rc (d, (y, pc, lv, eR r :: st), F, μ) := w_gf hr hp hk (by rw [e]; rfl) K
theorem v_gf3 {fg : eG} {rc : eQ} {d y pc : Nat} {x : Int} {lv : List (Option eV)} {st : List eV} {F : List eFr} {μ : eM} {np r a b pl idx v : Nat} (hr : (dt_co y).get pc = (pc, .getfield idx, 3, (a, b, 3, pl), x)) (hp : pc + 3 = np) (hk : ev_kd μ r = some a) (e : μ.1 r b = y_dec 3 v) (K : ex_q fg rc (d, (y, np, lv, eR v :: st), F, μ)) : ex_q fg rc (d, (y, pc, lv, eR r :: st), F, μ) := w_gf hr hp hk (by rw [e]; rfl) K
theorem v_pf0 {fg : eG} {rc : eQ} {d y pc : Nat} {x : Int} {lv : List (Option eV)} {st : List eV} {F : List eFr} {μ : eM} {np r a b pl idx v : Nat} (hr : (dt_co y).get pc = (pc, .putfield idx, 3, (a, b, 0, pl), x)) (hp : pc + 3 = np) (hk : ev_kd μ r = some a) (K : ex_q fg rc (d, (y, np, lv, st), F, (ev_up μ.1 r b (y_dec 0 v), μ.2))) : ex_q fg rc (d, (y, pc, lv, eI (zI v) :: eR r :: st), F, μ) := by
  subst hp
  exact ex_q_1 (xs_m hr rfl (by show (if ev_kd μ r = some a then some (st, (ev_up μ.1 r b (zI v), μ.2)) else none) = _; rw [if_pos hk]; rfl)) K
theorem v_pf1 {fg : eG} {rc : eQ} {d y pc : Nat} {x : Int} {lv : List (Option eV)} {st : List eV} {F : List eFr} {μ : eM} {np r a b pl idx v : Nat} (hr : (dt_co y).get pc = (pc, .putfield idx, 3, (a, b, 1, pl), x)) (hp : pc + 3 = np) (hk : ev_kd μ r = some a) (hv : Nat.ble v 1 = true) (K : ex_q fg rc (d, (y, np, lv, st), F, (ev_up μ.1 r b (y_dec 1 v), μ.2))) : ex_q fg rc (d, (y, pc, lv, eI (zI v) :: eR r :: st), F, μ) := by
  subst hp
  have hv := Nat.ble_eq.mp hv
  have e : ev_w (zI v) = 0 ∨ ev_w (zI v) = 1 := by rw [zI_w, zI_lit (by omega)]; omega
  refine ex_q_1 (xs_m hr rfl (by show (if ev_kd μ r = some a then (match (if ev_w (zI v) = 0 ∨ ev_w (zI v) = 1 then some (zI v) else none) with | some x => some (st, (ev_up μ.1 r b x, μ.2)) | none => none) else none) = _; rw [if_pos hk, if_pos e]; rfl)) K
theorem v_pf2 {fg : eG} {rc : eQ} {d y pc : Nat} {x : Int} {lv : List (Option eV)} {st : List eV} {F : List eFr} {μ : eM} {np r a b pl idx v : Nat} (hr : (dt_co y).get pc = (pc, .putfield idx, 3, (a, b, 2, pl), x)) (hp : pc + 3 = np) (hk : ev_kd μ r = some a) (K : ex_q fg rc (d, (y, np, lv, st), F, (ev_up μ.1 r b (y_dec 2 v), μ.2))) : ex_q fg rc (d, (y, pc, lv, eJ (zJ v) :: eR r :: st), F, μ) := by
  subst hp
  exact ex_q_1 (xs_m hr rfl (by show (if ev_kd μ r = some a then some (st, (ev_up μ.1 r b (zJ v), μ.2)) else none) = _; rw [if_pos hk]; rfl)) K
theorem v_pf3 {fg : eG} {rc : eQ} {d y pc : Nat} {x : Int} {lv : List (Option eV)} {st : List eV} {F : List eFr} {μ : eM} {np r a b pl idx v : Nat} (hr : (dt_co y).get pc = (pc, .putfield idx, 3, (a, b, 3, pl), x)) (hp : pc + 3 = np) (hk : ev_kd μ r = some a) (K : ex_q fg rc (d, (y, np, lv, st), F, (ev_up μ.1 r b (v : Int), μ.2))) : ex_q fg rc (d, (y, pc, lv, eR v :: eR r :: st), F, μ) := by
  subst hp
  exact ex_q_1 (xs_m hr rfl (by show (if ev_kd μ r = some a then some (st, (ev_up μ.1 r b (v : Int), μ.2)) else none) = _; rw [if_pos hk])) K
/-! rows of memory -/
theorem v_la {fg : eG} {rc : eQ} {d y pc : Nat} {x : Int} {lv : List (Option eV)} {st : List eV} {F : List eFr} {μ : eM} {np r a b t pl i v : Nat} (hr : (dt_co y).get pc = (pc, .iaload, 1, (a, b, t, pl), x)) (hp : pc + 1 = np) (hv : ev_al fg μ 100 r (zI i) = some (y_dec 0 v)) (K : ex_q fg rc (d, (y, np, lv, eI (zI v) :: st), F, μ)) : ex_q fg rc (d, (y, pc, lv, eI (zI i) :: eR r :: st), F, μ) := w_al hr hp hv K
theorem v_ll {fg : eG} {rc : eQ} {d y pc : Nat} {x : Int} {lv : List (Option eV)} {st : List eV} {F : List eFr} {μ : eM} {np r a b t pl i v : Nat} (hr : (dt_co y).get pc = (pc, .laload, 1, (a, b, t, pl), x)) (hp : pc + 1 = np) (hv : ev_al fg μ 101 r (zI i) = some (y_dec 2 v)) (K : ex_q fg rc (d, (y, np, lv, eJ (zJ v) :: st), F, μ)) : ex_q fg rc (d, (y, pc, lv, eI (zI i) :: eR r :: st), F, μ) := by
  subst hp
  refine ex_q_1 (xs_m (st' := eJ (zJ v) :: st) (μ' := μ) hr rfl ?_) K
  simp only [ev_m, hv]
  rfl
theorem y_al2 {fg : eG} {μ : eM} {r : Nat} {i z : Int} (h : ev_al fg μ 103 r i = some z) : ev_al fg μ 102 r i = none := by
  unfold ev_al at h ⊢
  split
  · rename_i h0
    rw [if_pos h0] at h
    split at h
    · rename_i h1
      rw [if_neg (by omega)]
    · cases h
  · rename_i h0
    rw [if_neg h0] at h
    split
    · rename_i q hq
      rw [hq] at h
      dsimp only at h
      split at h
      · rename_i h1
        rw [if_neg (by omega)]
      · cases h
    · rfl
theorem y_as2 {μ μ' : eM} {r : Nat} {i z z' : Int} (h : ev_as μ 103 r i z = some μ') : ev_as μ 102 r i z' = none := by
  unfold ev_as at h ⊢
  split
  · rfl
  · rename_i h0
    rw [if_neg h0] at h
    split
    · rename_i q hq
      rw [hq] at h
      dsimp only at h
      split at h
      · rename_i h1
        rw [if_neg (by omega)]
      · cases h
    · rfl
theorem v_bl3 {fg : eG} {rc : eQ} {d y pc : Nat} {x : Int} {lv : List (Option eV)} {st : List eV} {F : List eFr} {μ : eM} {np r a b t pl i v : Nat} (hr : (dt_co y).get pc = (pc, .baload, 1, (a, b, t, pl), x)) (hp : pc + 1 = np) (hv : ev_al fg μ 103 r (zI i) = some (y_dec 0 v)) (K : ex_q fg rc (d, (y, np, lv, eI (zI v) :: st), F, μ)) : ex_q fg rc (d, (y, pc, lv, eI (zI i) :: eR r :: st), F, μ) := by
  subst hp
  refine ex_q_1 (xs_m (st' := eI (zI v) :: st) (μ' := μ) hr rfl ?_) K
  simp only [ev_m, hv, y_al2 hv]
  rfl
theorem v_bl2 {fg : eG} {rc : eQ} {d y pc : Nat} {x : Int} {lv : List (Option eV)} {st : List eV} {F : List eFr} {μ : eM} {np r a b t pl i v : Nat} (hr : (dt_co y).get pc = (pc, .baload, 1, (a, b, t, pl), x)) (hp : pc + 1 = np) (hv : ev_al fg μ 102 r (zI i) = some (y_dec 0 v)) (K : ex_q fg rc (d, (y, np, lv, eI (zI v) :: st), F, μ)) : ex_q fg rc (d, (y, pc, lv, eI (zI i) :: eR r :: st), F, μ) := by
  subst hp
  refine ex_q_1 (xs_m (st' := eI (zI v) :: st) (μ' := μ) hr rfl ?_) K
  simp only [ev_m, hv]
  rfl
theorem v_sa {fg : eG} {rc : eQ} {d y pc : Nat} {x : Int} {lv : List (Option eV)} {st : List eV} {F : List eFr} {μ : eM} {np r a b t pl i v : Nat} {μ' : eM} (hr : (dt_co y).get pc = (pc, .iastore, 1, (a, b, t, pl), x)) (hp : pc + 1 = np) (hv : ev_as μ 100 r (zI i) (y_dec 0 v) = some μ') (K : ex_q fg rc (d, (y, np, lv, st), F, μ')) : ex_q fg rc (d, (y, pc, lv, eI (zI v) :: eI (zI i) :: eR r :: st), F, μ) := w_as hr hp hv K
theorem v_sl {fg : eG} {rc : eQ} {d y pc : Nat} {x : Int} {lv : List (Option eV)} {st : List eV} {F : List eFr} {μ : eM} {np r a b t pl i v : Nat} {μ' : eM} (hr : (dt_co y).get pc = (pc, .lastore, 1, (a, b, t, pl), x)) (hp : pc + 1 = np) (hv : ev_as μ 101 r (zI i) (y_dec 2 v) = some μ') (K : ex_q fg rc (d, (y, np, lv, st), F, μ')) : ex_q fg rc (d, (y, pc, lv, eJ (zJ v) :: eI (zI i) :: eR r :: st), F, μ) := by
  subst hp
  have hv2 : ev_as μ 101 r (zI i) (zJ v) = some μ' := hv
  refine ex_q_1 (xs_m (st' := st) (μ' := μ') hr rfl ?_) K
  simp only [ev_m, hv2]
theorem v_sb3 {fg : eG} {rc : eQ} {d y pc : Nat} {x : Int} {lv : List (Option eV)} {st : List eV} {F : List eFr} {μ : eM} {np r a b t pl i v : Nat} {μ' : eM} (hr : (dt_co y).get pc = (pc, .bastore, 1, (a, b, t, pl), x)) (hp : pc + 1 = np) (h1 : Nat.ble v 1 = true) (hv : ev_as μ 103 r (zI i) (y_dec 0 v) = some μ') (K : ex_q fg rc (d, (y, np, lv, st), F, μ')) : ex_q fg rc (d, (y, pc, lv, eI (zI v) :: eI (zI i) :: eR r :: st), F, μ) := by
  subst hp
  have h1 := Nat.ble_eq.mp h1
  have e : ev_w (zI v) = 0 ∨ ev_w (zI v) = 1 := by rw [zI_w, zI_lit (by omega)]; omega
  have hv2 : ev_as μ 103 r (zI i) (zI v) = some μ' := hv
  refine ex_q_1 (xs_m (st' := st) (μ' := μ') hr rfl ?_) K
  simp only [ev_m, hv2, y_as2 hv, if_pos e]
theorem v_ln {fg : eG} {rc : eQ} {d y pc : Nat} {x : Int} {lv : List (Option eV)} {st : List eV} {F : List eFr} {μ : eM} {np r a b t pl v n : Nat} (hr : (dt_co y).get pc = (pc, .arraylength, 1, (a, b, t, pl), x)) (hp : pc + 1 = np) (hv : ev_ln fg μ r = some n ∧ zI v = (n : Int)) (K : ex_q fg rc (d, (y, np, lv, eI (zI v) :: st), F, μ)) : ex_q fg rc (d, (y, pc, lv, eR r :: st), F, μ) := by
  subst hp
  refine ex_q_1 (xs_m (st' := eI (zI v) :: st) (μ' := μ) hr rfl ?_) K
  simp only [ev_m, hv.1, hv.2]
theorem v_no {fg : eG} {rc : eQ} {d y pc : Nat} {x : Int} {lv : List (Option eV)} {st : List eV} {F : List eFr} {μ : eM} {np a b t pl idx n r : Nat} (hr : (dt_co y).get pc = (pc, .new idx, 3, (a, b, t, pl), x)) (hp : pc + 3 = np) (hn : (dt_lay a).length = n) (h1 : r = μ.2.1.length + 64) (K : ex_q fg rc (d, (y, np, lv, eR r :: st), F, ev_nw μ a n)) : ex_q fg rc (d, (y, pc, lv, st), F, μ) := by
  subst hp
  subst hn
  subst h1
  exact ex_q_1 (xs_m hr rfl rfl) K
theorem v_na {fg : eG} {rc : eQ} {d y pc : Nat} {x : Int} {lv : List (Option eV)} {st : List eV} {F : List eFr} {μ : eM} {np a b t pl n r : Nat} {ty : Jvm.ClassFile.ArrayType} (hr : (dt_co y).get pc = (pc, .newarray ty, 2, (a, b, t, pl), x)) (hp : pc + 2 = np) (hn : 0 ≤ ev_w (zI n) ∧ ev_w (zI n) ≤ 1000000 ∧ (ev_w (zI n)).toNat = n) (h1 : r = μ.2.1.length + 64) (K : ex_q fg rc (d, (y, np, lv, eR r :: st), F, ev_nw μ a n)) : ex_q fg rc (d, (y, pc, lv, eI (zI n) :: st), F, μ) := by
  subst hp
  subst h1
  refine ex_q_1 (xs_m hr rfl ?_) K
  show (if 0 ≤ ev_w (zI n) ∧ ev_w (zI n) ≤ 1000000 then some (eR (μ.2.1.length + 64) :: st, ev_nw μ a (ev_w (zI n)).toNat) else none) = _
  rw [if_pos ⟨hn.1, hn.2.1⟩, hn.2.2]
theorem v_lc {fg : eG} {rc : eQ} {d y pc : Nat} {x : Int} {lv : List (Option eV)} {st : List eV} {F : List eFr} {μ : eM} {np b t pl idx c : Nat} (hr : (dt_co y).get pc = (pc, .ldc idx, 2, (0, b, t, pl), x)) (hp : pc + 2 = np) (e : zI c = x) (K : ex_q fg rc (d, (y, np, lv, eI (zI c) :: st), F, μ)) : ex_q fg rc (d, (y, pc, lv, st), F, μ) := by
  subst hp
  subst e
  exact ex_q_1 (xs_m hr rfl rfl) K
theorem v_lw {fg : eG} {rc : eQ} {d y pc : Nat} {x : Int} {lv : List (Option eV)} {st : List eV} {F : List eFr} {μ : eM} {np b t pl idx c : Nat} (hr : (dt_co y).get pc = (pc, .ldc_w idx, 3, (0, b, t, pl), x)) (hp : pc + 3 = np) (e : zI c = x) (K : ex_q fg rc (d, (y, np, lv, eI (zI c) :: st), F, μ)) : ex_q fg rc (d, (y, pc, lv, st), F, μ) := by
  subst hp
  subst e
  exact ex_q_1 (xs_m hr rfl rfl) K
theorem v_l2 {fg : eG} {rc : eQ} {d y pc : Nat} {x : Int} {lv : List (Option eV)} {st : List eV} {F : List eFr} {μ : eM} {np b t pl idx c : Nat} (hr : (dt_co y).get pc = (pc, .ldc2_w idx, 3, (1, b, t, pl), x)) (hp : pc + 3 = np) (e : zJ c = x) (K : ex_q fg rc (d, (y, np, lv, eJ (zJ c) :: st), F, μ)) : ex_q fg rc (d, (y, pc, lv, st), F, μ) := by
  subst hp
  subst e
  exact ex_q_1 (xs_m hr rfl rfl) K
theorem v_gs {fg : eG} {rc : eQ} {d y pc : Nat} {x : Int} {lv : List (Option eV)} {st : List eV} {F : List eFr} {μ : eM} {np a b t pl idx : Nat} (hr : (dt_co y).get pc = (pc, .getstatic idx, 3, (a, b, t, pl), x)) (hp : pc + 3 = np) (K : ex_q fg rc (d, (y, np, lv, eR a :: st), F, μ)) : ex_q fg rc (d, (y, pc, lv, st), F, μ) := by
  subst hp
  exact ex_q_1 (xs_m hr rfl rfl) K
/-! calls of what has no rows, of constructors; answers -/
theorem v_oi {fg : eG} {rc : eQ} {d y pc : Nat} {x : Int} {lv : List (Option eV)} {st : List eV} {F : List eFr} {μ : eM} {np b t pl idx r : Nat} (hr : (dt_co y).get pc = (pc, .invokespecial idx, 3, (10, b, t, pl), x)) (hp : pc + 3 = np) (h1 : 0 < r) (h2 : Nat.ble (st.map ev_cat).sum 8 = true) (K : ex_q fg rc (d + 1, (y, np, lv, st), F, μ)) : ex_q fg rc (d + 1, (y, pc, lv, eR r :: st), F, μ) := by
  subst hp
  refine ex_q_1 (xs_o hr rfl ?_) K
  show (if 10 = 10 ∧ 0 < d + 1 ∧ 0 < r ∧ (st.map ev_cat).sum ≤ 8 then some (st, μ) else none) = _
  rw [if_pos ⟨rfl, by omega, h1, Nat.ble_eq.mp h2⟩]
theorem v_ci {fg : eG} {rc : eQ} {d y pc : Nat} {x : Int} {lv : List (Option eV)} {st : List eV} {F : List eFr} {μ : eM} {np r b t pl idx : Nat} {as : List eV} {lv' : List (Option eV)} {rest : List eV} (hr : (dt_co y).get pc = (pc, .invokespecial idx, 3, (1, b, t, pl), x)) (hp : pc + 3 = np) (h1 : st.drop t = eR r :: rest) (h2 : t ≤ st.length) (h3 : Nat.ble (rest.map ev_cat).sum 8 = true) (h4 : (st.take t).reverse = as) (h5 : Nat.ble (ev_sl1 (eR r :: as)).length (dt_mx b) = true) (h6 : 64 ≤ r) (he : ev_en (dt_mx b) (eR r :: as) = lv') (K : ex_q fg rc (d, (b, 0, lv', []), (y, np, lv, rest) :: F, μ)) : ex_q fg rc (d + 1, (y, pc, lv, st), F, μ) := by
  subst hp
  subst he
  subst h4
  refine ex_q_1 (xs_q (as := eR r :: (st.take t).reverse) (rs := rest) hr rfl (by decide) (Nat.succ_pos d) ?_) K
  unfold ev_cl2
  rw [if_pos h2]
  dsimp only
  rw [h1]
  dsimp only
  rw [if_pos ⟨rfl, Nat.ble_eq.mp h3, Nat.ble_eq.mp h5, h6⟩]
theorem v_rz {fg : eG} {rc : eQ} {d y pc : Nat} {x : Int} {lv : List (Option eV)} {F : List eFr} {μ : eM} {n v : Nat} {z : Nat × Nat × Nat × Nat} {f : eFr} (hr : (dt_co y).get pc = (pc, .ireturn, n, z, x)) (h2 : (dt_pl y).2.1 = 2) (hv : Nat.ble v 1 = true) (K : ex_q fg rc (d + 1, (f.1, f.2.1, f.2.2.1, eI (zI v) :: f.2.2.2), F, μ)) : ex_q fg rc (d, (y, pc, lv, [eI (zI v)]), f :: F, μ) := by
  have hv := Nat.ble_eq.mp hv
  have e : ev_w (zI v) = 0 ∨ ev_w (zI v) = 1 := by rw [zI_w, zI_lit (by omega)]; omega
  refine w_rt (r := some (eI (zI v))) hr rfl ?_ K
  show (if (dt_pl y).2.1 = 1 ∨ ((dt_pl y).2.1 = 2 ∧ (ev_w (zI v) = 0 ∨ ev_w (zI v) = 1)) then some (some (eI (zI v))) else none) = _
  rw [if_pos (Or.inr ⟨h2, e⟩)]
theorem v_ri {fg : eG} {rc : eQ} {d y pc : Nat} {x : Int} {lv : List (Option eV)} {F : List eFr} {μ : eM} {n v : Nat} {z : Nat × Nat × Nat × Nat} {f : eFr} (hr : (dt_co y).get pc = (pc, .ireturn, n, z, x)) (h2 : (dt_pl y).2.1 = 1) (K : ex_q fg rc (d + 1, (f.1, f.2.1, f.2.2.1, eI (zI v) :: f.2.2.2), F, μ)) : ex_q fg rc (d, (y, pc, lv, [eI (zI v)]), f :: F, μ) := by
  refine w_rt (r := some (eI (zI v))) hr rfl ?_ K
  show (if (dt_pl y).2.1 = 1 ∨ ((dt_pl y).2.1 = 2 ∧ (ev_w (zI v) = 0 ∨ ev_w (zI v) = 1)) then some (some (eI (zI v))) else none) = _
  rw [if_pos (Or.inl h2)]
theorem v_rl {fg : eG} {rc : eQ} {d y pc : Nat} {x : Int} {lv : List (Option eV)} {F : List eFr} {μ : eM} {n v : Nat} {z : Nat × Nat × Nat × Nat} {f : eFr} (hr : (dt_co y).get pc = (pc, .lreturn, n, z, x)) (h2 : (dt_pl y).2.1 = 3) (K : ex_q fg rc (d + 1, (f.1, f.2.1, f.2.2.1, eJ (zJ v) :: f.2.2.2), F, μ)) : ex_q fg rc (d, (y, pc, lv, [eJ (zJ v)]), f :: F, μ) := by
  refine w_rt (r := some (eJ (zJ v))) hr rfl ?_ K
  show (if (dt_pl y).2.1 = 3 then some (some (eJ (zJ v))) else none) = _
  rw [if_pos h2]
theorem v_ra {fg : eG} {rc : eQ} {d y pc : Nat} {x : Int} {lv : List (Option eV)} {F : List eFr} {μ : eM} {n v : Nat} {z : Nat × Nat × Nat × Nat} {f : eFr} (hr : (dt_co y).get pc = (pc, .areturn, n, z, x)) (h2 : (dt_pl y).2.1 = 5) (K : ex_q fg rc (d + 1, (f.1, f.2.1, f.2.2.1, eR v :: f.2.2.2), F, μ)) : ex_q fg rc (d, (y, pc, lv, [eR v]), f :: F, μ) := by
  refine w_rt (r := some (eR v)) hr rfl ?_ K
  show (if (dt_pl y).2.1 = 5 then some (some (eR v)) else none) = _
  rw [if_pos h2]
theorem v_rv {fg : eG} {rc : eQ} {d y pc : Nat} {x : Int} {lv : List (Option eV)} {F : List eFr} {μ : eM} {n : Nat} {z : Nat × Nat × Nat × Nat} {f : eFr} (hr : (dt_co y).get pc = (pc, .return_, n, z, x)) (h2 : (dt_pl y).2.1 = 0) (K : ex_q fg rc (d + 1, (f.1, f.2.1, f.2.2.1, f.2.2.2), F, μ)) : ex_q fg rc (d, (y, pc, lv, []), f :: F, μ) := by
  refine w_rt (r := none) hr rfl ?_ K
  show (if (dt_pl y).2.1 = 0 then some none else none) = _
  rw [if_pos h2]
/-! a row copied from its first place on -/
noncomputable def y_cp (M : yM) (q r n : Nat) (K : yM → Bool) : Bool := f_if false (Nat.ble n 256) (y_cl M q fun k0 n0 t0 => y_cl M r fun k1 n1 t1 => f_if false (Nat.beq k0 k1) (f_if false (z_if (Nat.beq k1 100) true (Nat.beq k1 101)) (f_if false (Nat.ble n n0) (f_if false (Nat.ble n n1) (y_fo (y_mg (y_get t0 0) (y_get t1 0) n) (y_set (y_mg (y_get t0 0) (y_get t1 0) n) t1 0 fun t' => @Prod.rec nC7 (Nat × Nat) (fun _ => Bool) (fun T0 c0 => n_p7 (Nat.sub r 64) (k1, n1, t') T0 fun T => K (T, c0)) M))))))
theorem y_cp_ok {M : yM} {μ : eM} {q r n : Nat} {K : yM → Bool} (h : y_cp M q r n K = true) (hR : yR M μ) : ∃ M' k n0 n1, K M' = true ∧ ev_kn μ q = some (k, n0) ∧ ev_kn μ r = some (k, n1) ∧ (k = 100 ∨ k = 101) ∧ n ≤ n0 ∧ n ≤ n1 ∧ zI n = (n : Int) ∧ yR M' (ev_ur μ.1 r (ev_cp (μ.1 q) (μ.1 r) n), μ.2) := by
  obtain ⟨g1, h1⟩ := f_if_ok h
  obtain ⟨j0, k0, n0, t0, a1, a2, a3, a4, ⟨d0, b1, b2, b3, b4⟩, h2⟩ := y_cl_ok h1 hR
  obtain ⟨j1, k1, n1, t1, c1, c2, c3, c4, ⟨d1, e1, e2, e3, e4⟩, h3⟩ := y_cl_ok h2 hR
  obtain ⟨g2, h4⟩ := f_if_ok h3
  obtain ⟨g3, h5⟩ := f_if_ok h4
  obtain ⟨g4, h6⟩ := f_if_ok h5
  obtain ⟨g5, h7⟩ := f_if_ok h6
  have g6 : k0 = k1 := Nat.eq_of_beq_eq_true g2
  have g7 : n ≤ 256 := Nat.ble_eq.mp g1
  have g8 : n ≤ n0 := Nat.ble_eq.mp g4
  have g9 : n ≤ n1 := Nat.ble_eq.mp g5
  have hk : k1 = 100 ∨ k1 = 101 := by
    rcases z_if_t g3 with ⟨q1, -⟩ | ⟨-, q1⟩
    · exact Or.inl (Nat.eq_of_beq_eq_true q1)
    · exact Or.inr (Nat.eq_of_beq_eq_true q1)
  have h8 : f_if false (Nat.ble 0 (y_mg (y_get t0 0) (y_get t1 0) n)) (y_set (y_mg (y_get t0 0) (y_get t1 0) n) t1 0 fun t' => @Prod.rec nC7 (Nat × Nat) (fun _ => Bool) (fun T0 c0 => n_p7 (Nat.sub r 64) (k1, n1, t') T0 fun T => K (T, c0)) M) = true := h7
  have h9' := (f_if_ok h8).2
  rw [y_set_eq] at h9'
  have h9 : K (n_q7 (Nat.sub r 64) (k1, n1, y_put (y_mg (y_get t0 0) (y_get t1 0) n) t1 0) M.1, M.2) = true := by
    obtain ⟨T0, c0⟩ := M
    have h10 : n_p7 (Nat.sub r 64) (k1, n1, y_put (y_mg (y_get t0 0) (y_get t1 0) n) t1 0) T0 (fun T => K (T, c0)) = true := h9'
    rw [n_p7_eq] at h10
    exact h10
  have hkn : ∀ (s j k m : Nat), s = j + 64 → μ.2.1[j]? = some (k, m) → ev_kn μ s = some (k, m) := by
    intro s j k m p1 p2
    unfold ev_kn
    rw [if_neg (by omega), show s - 64 = j by omega]
    exact p2
  rw [g6] at a4
  refine ⟨_, k1, n0, n1, h9, hkn q j0 k1 n0 a1 a4, hkn r j1 k1 n1 c1 c4, hk, g8, g9, zI_lit (by omega), ?_⟩
  have hty : ∀ k, y_ty k1 k = y_ty k1 0 := by
    intro k
    unfold y_ty
    simp only [if_neg (show ¬ k1 < 100 by omega)]
  have hrow : y_row k1 n1 (y_put (y_mg (y_get t0 0) (y_get t1 0) n) t1 0) (ev_cp (μ.1 q) (μ.1 r) n) := by
    refine ⟨d1, y_pf_put _ _ _ _ e1, e2, e3, fun k c hk1 hc => ?_⟩
    have hlt : k / 256 < 2 ^ d1 := by omega
    have hg := y_get_put (y_mg (y_get t0 0) (y_get t1 0) n) d1 t1 0 (k / 256) e1
    rw [Nat.mod_eq_of_lt hlt, Nat.zero_mod] at hg
    have hc1 : n_at (y_get (y_put (y_mg (y_get t0 0) (y_get t1 0) n) t1 0) (k / 256)) (k % 256) = c + 1 := hc
    rw [hg] at hc1
    unfold ev_cp
    have hp0 : 0 < 2 ^ d0 := Nat.pow_pos (by decide)
    by_cases hz : k / 256 = 0
    · rw [if_pos hz, y_mg_cd] at hc1
      by_cases hkn2 : k < n
      · rw [if_pos hkn2]
        rw [if_pos (by omega)] at hc1
        have := b4 k c (by omega) (by show n_at (y_get t0 (k / 256)) (k % 256) = c + 1; rw [hz]; exact hc1)
        rw [this, g6]
      · rw [if_neg hkn2]
        rw [if_neg (by omega)] at hc1
        exact e4 k c hk1 (by show n_at (y_get t1 (k / 256)) (k % 256) = c + 1; rw [hz]; exact hc1)
    · rw [if_neg hz] at hc1
      rw [if_neg (by omega)]
      exact e4 k c hk1 hc1
  have hcell := y_cell hR c2 c4 hrow
  rw [← c1] at hcell
  have e : Nat.sub r 64 = j1 := by show r - 64 = j1; omega
  rw [e]
  exact hcell
theorem v_cp {fg : eG} {rc : eQ} {d y pc : Nat} {x : Int} {lv : List (Option eV)} {st : List eV} {F : List eFr} {μ : eM} {np b t pl idx q r n dp sp : Nat} {k n0 n1 : Nat} (hr : (dt_co y).get pc = (pc, .invokestatic idx, 3, (23, b, t, pl), x)) (hp : pc + 3 = np) (h1 : ev_kn μ q = some (k, n0)) (h2 : ev_kn μ r = some (k, n1)) (h3 : k = 100 ∨ k = 101) (h4 : n ≤ n0) (h5 : n ≤ n1) (h6 : zI n = (n : Int)) (h7 : dp = 0) (h8 : sp = 0) (h9 : Nat.ble (st.map ev_cat).sum 8 = true) (K : ex_q fg rc (d + 1, (y, np, lv, st), F, (ev_ur μ.1 r (ev_cp (μ.1 q) (μ.1 r) n), μ.2))) : ex_q fg rc (d + 1, (y, pc, lv, eI (zI n) :: eI (zI dp) :: eR r :: eI (zI sp) :: eR q :: st), F, μ) := by
  subst hp
  subst h7
  subst h8
  refine ex_q_1 (xs_o hr rfl ?_) K
  have e0 : ev_w (zI 0) = 0 := by rw [zI_w, z_c0]
  show (if 23 = 23 ∧ 0 < d + 1 ∧ (st.map ev_cat).sum ≤ 8 ∧ ev_w (zI 0) = 0 ∧ ev_w (zI 0) = 0 ∧ 0 ≤ ev_w (zI n) then (match ev_kn μ q, ev_kn μ r with
      | some (k0, n0), some (k1, n1) => if k0 = k1 ∧ (k1 = 100 ∨ k1 = 101) ∧ ev_w (zI n) ≤ (n0 : Int) ∧ ev_w (zI n) ≤ (n1 : Int) then some (st, (ev_ur μ.1 r (ev_cp (μ.1 q) (μ.1 r) (ev_w (zI n)).toNat), μ.2)) else none
      | _, _ => none) else _) = _
  have eN : ev_w (zI n) = (n : Int) := by rw [zI_w, h6]
  rw [if_pos ⟨rfl, by omega, Nat.ble_eq.mp h9, e0, e0, by rw [eN]; omega⟩, h1, h2]
  dsimp only
  rw [eN, if_pos ⟨rfl, h3, by omega, by omega⟩, Int.toNat_natCast]

