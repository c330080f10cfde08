/-! comes: the class, figure by figure -/
set_option maxRecDepth 100000 in
theorem gs0_n : ms_184 (z_no [130, 16806, 174, 3981, 14005, 1371, 146893, 21208]) (mo2 136 0 gm0_a gm0_b) 64 0 gm_c0 (fun r M => f_if false (Nat.beq r 4294967295) (y_sub M gm0_z)) = true := by decide +kernel
set_option maxRecDepth 100000 in
theorem gs0_130 : ms_184 (z_is 130) (mo2 136 0 gm0_a gm0_b) 64 0 gm_c0 (fun r M => f_if false (Nat.beq r 1) (y_sub M gm0_z)) = true := by decide +kernel
set_option maxRecDepth 100000 in
theorem gs0_16806 : ms_184 (z_is 16806) (mo2 136 0 gm0_a gm0_b) 64 0 gm_c0 (fun r M => f_if false (Nat.beq r 1) (y_sub M gm0_z)) = true := by decide +kernel
set_option maxRecDepth 100000 in
theorem gs0_174 : ms_184 (z_is 174) (mo2 136 0 gm0_a gm0_b) 64 0 gm_c0 (fun r M => f_if false (Nat.beq r 2) (y_sub M gm0_z)) = true := by decide +kernel
set_option maxRecDepth 100000 in
theorem gs0_3981 : ms_184 (z_is 3981) (mo2 136 0 gm0_a gm0_b) 64 0 gm_c0 (fun r M => f_if false (Nat.beq r 2) (y_sub M gm0_z)) = true := by decide +kernel
set_option maxRecDepth 100000 in
theorem gs0_14005 : ms_184 (z_is 14005) (mo2 136 0 gm0_a gm0_b) 64 0 gm_c0 (fun r M => f_if false (Nat.beq r 2) (y_sub M gm0_z)) = true := by decide +kernel
set_option maxRecDepth 100000 in
theorem gs0_1371 : ms_184 (z_is 1371) (mo2 136 0 gm0_a gm0_b) 64 0 gm_c0 (fun r M => f_if false (Nat.beq r 3) (y_sub M gm0_z)) = true := by decide +kernel
set_option maxRecDepth 100000 in
theorem gs0_146893 : ms_184 (z_is 146893) (mo2 136 0 gm0_a gm0_b) 64 0 gm_c0 (fun r M => f_if false (Nat.beq r 3) (y_sub M gm0_z)) = true := by decide +kernel
set_option maxRecDepth 100000 in
theorem gs0_21208 : ms_184 (z_is 21208) (mo2 136 0 gm0_a gm0_b) 64 0 gm_c0 (fun r M => f_if false (Nat.beq r 4) (y_sub M gm0_z)) = true := by decide +kernel
set_option maxRecDepth 100000 in
theorem gs1_n : ms_184 (z_no [174, 130, 146893, 1371, 3981, 16806]) (mo2 136 1 gm1_a gm1_b) 64 1 gm_c0 (fun r M => f_if false (Nat.beq r 4294967295) (y_sub M gm1_z)) = true := by decide +kernel
set_option maxRecDepth 100000 in
theorem gs1_174 : ms_184 (z_is 174) (mo2 136 1 gm1_a gm1_b) 64 1 gm_c0 (fun r M => f_if false (Nat.beq r 3) (y_sub M gm1_z)) = true := by decide +kernel
set_option maxRecDepth 100000 in
theorem gs1_130 : ms_184 (z_is 130) (mo2 136 1 gm1_a gm1_b) 64 1 gm_c0 (fun r M => f_if false (Nat.beq r 4) (y_sub M gm1_z)) = true := by decide +kernel
set_option maxRecDepth 100000 in
theorem gs1_146893 : ms_184 (z_is 146893) (mo2 136 1 gm1_a gm1_b) 64 1 gm_c0 (fun r M => f_if false (Nat.beq r 4) (y_sub M gm1_z)) = true := by decide +kernel
set_option maxRecDepth 100000 in
theorem gs1_1371 : ms_184 (z_is 1371) (mo2 136 1 gm1_a gm1_b) 64 1 gm_c0 (fun r M => f_if false (Nat.beq r 5) (y_sub M gm1_z)) = true := by decide +kernel
set_option maxRecDepth 100000 in
theorem gs1_3981 : ms_184 (z_is 3981) (mo2 136 1 gm1_a gm1_b) 64 1 gm_c0 (fun r M => f_if false (Nat.beq r 5) (y_sub M gm1_z)) = true := by decide +kernel
set_option maxRecDepth 100000 in
theorem gs1_16806 : ms_184 (z_is 16806) (mo2 136 1 gm1_a gm1_b) 64 1 gm_c0 (fun r M => f_if false (Nat.beq r 5) (y_sub M gm1_z)) = true := by decide +kernel
set_option maxRecDepth 100000 in
theorem gs2_n : ms_184 (z_no [174, 130, 1371, 3981, 146893, 16806, 21208]) (mo2 136 2 gm2_a gm2_b) 64 2 gm_c0 (fun r M => f_if false (Nat.beq r 4294967295) (y_sub M gm2_z)) = true := by decide +kernel
set_option maxRecDepth 100000 in
theorem gs2_174 : ms_184 (z_is 174) (mo2 136 2 gm2_a gm2_b) 64 2 gm_c0 (fun r M => f_if false (Nat.beq r 3) (y_sub M gm2_z)) = true := by decide +kernel
set_option maxRecDepth 100000 in
theorem gs2_130 : ms_184 (z_is 130) (mo2 136 2 gm2_a gm2_b) 64 2 gm_c0 (fun r M => f_if false (Nat.beq r 4) (y_sub M gm2_z)) = true := by decide +kernel
set_option maxRecDepth 100000 in
theorem gs2_1371 : ms_184 (z_is 1371) (mo2 136 2 gm2_a gm2_b) 64 2 gm_c0 (fun r M => f_if false (Nat.beq r 4) (y_sub M gm2_z)) = true := by decide +kernel
set_option maxRecDepth 100000 in
theorem gs2_3981 : ms_184 (z_is 3981) (mo2 136 2 gm2_a gm2_b) 64 2 gm_c0 (fun r M => f_if false (Nat.beq r 4) (y_sub M gm2_z)) = true := by decide +kernel
set_option maxRecDepth 100000 in
theorem gs2_146893 : ms_184 (z_is 146893) (mo2 136 2 gm2_a gm2_b) 64 2 gm_c0 (fun r M => f_if false (Nat.beq r 4) (y_sub M gm2_z)) = true := by decide +kernel
set_option maxRecDepth 100000 in
theorem gs2_16806 : ms_184 (z_is 16806) (mo2 136 2 gm2_a gm2_b) 64 2 gm_c0 (fun r M => f_if false (Nat.beq r 5) (y_sub M gm2_z)) = true := by decide +kernel
set_option maxRecDepth 100000 in
theorem gs2_21208 : ms_184 (z_is 21208) (mo2 136 2 gm2_a gm2_b) 64 2 gm_c0 (fun r M => f_if false (Nat.beq r 5) (y_sub M gm2_z)) = true := by decide +kernel
set_option maxRecDepth 100000 in
theorem gs3_n : ms_184 (z_no [130, 1371, 174, 3981, 21208, 16806, 146893, 14005]) (mo2 136 3 gm3_a gm3_b) 64 3 gm_c0 (fun r M => f_if false (Nat.beq r 4294967295) (y_sub M gm3_z)) = true := by decide +kernel
set_option maxRecDepth 100000 in
theorem gs3_130 : ms_184 (z_is 130) (mo2 136 3 gm3_a gm3_b) 64 3 gm_c0 (fun r M => f_if false (Nat.beq r 2) (y_sub M gm3_z)) = true := by decide +kernel
set_option maxRecDepth 100000 in
theorem gs3_1371 : ms_184 (z_is 1371) (mo2 136 3 gm3_a gm3_b) 64 3 gm_c0 (fun r M => f_if false (Nat.beq r 2) (y_sub M gm3_z)) = true := by decide +kernel
set_option maxRecDepth 100000 in
theorem gs3_174 : ms_184 (z_is 174) (mo2 136 3 gm3_a gm3_b) 64 3 gm_c0 (fun r M => f_if false (Nat.beq r 3) (y_sub M gm3_z)) = true := by decide +kernel
set_option maxRecDepth 100000 in
theorem gs3_3981 : ms_184 (z_is 3981) (mo2 136 3 gm3_a gm3_b) 64 3 gm_c0 (fun r M => f_if false (Nat.beq r 3) (y_sub M gm3_z)) = true := by decide +kernel
set_option maxRecDepth 100000 in
theorem gs3_21208 : ms_184 (z_is 21208) (mo2 136 3 gm3_a gm3_b) 64 3 gm_c0 (fun r M => f_if false (Nat.beq r 3) (y_sub M gm3_z)) = true := by decide +kernel
set_option maxRecDepth 100000 in
theorem gs3_16806 : ms_184 (z_is 16806) (mo2 136 3 gm3_a gm3_b) 64 3 gm_c0 (fun r M => f_if false (Nat.beq r 4) (y_sub M gm3_z)) = true := by decide +kernel
set_option maxRecDepth 100000 in
theorem gs3_146893 : ms_184 (z_is 146893) (mo2 136 3 gm3_a gm3_b) 64 3 gm_c0 (fun r M => f_if false (Nat.beq r 4) (y_sub M gm3_z)) = true := by decide +kernel
set_option maxRecDepth 100000 in
theorem gs3_14005 : ms_184 (z_is 14005) (mo2 136 3 gm3_a gm3_b) 64 3 gm_c0 (fun r M => f_if false (Nat.beq r 5) (y_sub M gm3_z)) = true := by decide +kernel
set_option maxRecDepth 100000 in
theorem gx_c0 : y_is gm_c0 64 10 true = true := by decide +kernel
set_option maxRecDepth 100000 in
theorem gx_0 : y_is gm0_z 98 11 true = true := by decide +kernel
set_option maxRecDepth 100000 in
theorem gx_1 : y_is gm1_z 98 11 true = true := by decide +kernel
set_option maxRecDepth 100000 in
theorem gx_2 : y_is gm2_z 98 11 true = true := by decide +kernel
set_option maxRecDepth 100000 in
theorem gx_3 : y_is gm3_z 98 11 true = true := by decide +kernel
theorem z_eq_tr {v φ : Nat} (h : z_eq v φ = true) (w : Nat) : z_eq w φ = z_eq w v := by
  have e : v % 4294967296 = φ % 4294967296 := Nat.eq_of_beq_eq_true h
  show Nat.beq (w % 4294967296) (φ % 4294967296) = Nat.beq (w % 4294967296) (v % 4294967296)
  rw [e]
theorem zT_is {v φ : Nat} (h : z_eq v φ = true) : zT φ (z_is v) := by
  intro w A B q
  rw [z_eq_tr h w]
  exact z_if_t q
theorem z_m1 {φ : Nat} (h : z_l0 φ = false) : z_eq 4294967295 φ = false := by
  cases q : z_eq 4294967295 φ with
  | false => rfl
  | true =>
    have e : 4294967295 % 4294967296 = φ % 4294967296 := Nat.eq_of_beq_eq_true q
    have h1 : Nat.ble 2147483648 (φ % 4294967296) = false := h
    rw [← e] at h1
    exact absurd h1 (by decide)
theorem z_nil {φ : Nat} : ∀ v ∈ ([] : List Nat), z_eq v φ = false := fun v h => absurd h List.not_mem_nil
theorem z_cons {φ x : Nat} {l : List Nat} (h1 : z_eq x φ = false) (h2 : ∀ v ∈ l, z_eq v φ = false) : ∀ v ∈ x :: l, z_eq v φ = false := by
  intro v h
  rcases List.mem_cons.mp h with e | h
  · rw [e]
    exact h1
  · exact h2 v h
/-- what comes answers, from the constructors' memory; behind it memory Z -/
def CRes (fg : eG) (s φ l : Nat) (Z : yM) : Prop := ∀ (d : Nat) (f : eFr) (F : List eFr) (μ0 : eM), yR gm_c0 μ0 → (∀ μ : eM, yR Z μ → ex_fine fg 4096 1000000 (d + 8, (f.1, f.2.1, f.2.2.1, eI (zI l) :: f.2.2.2), F, μ)) → ex_fine fg 4096 1000000 (d + 7, (184, 0, [some (eR 64), some (eI (zI s)), some (eI (zI φ))], []), f :: F, μ0)
def RRes (fg : eG) (s φ l : Nat) (Z : yM) : Prop := ∀ (d : Nat) (f : eFr) (F : List eFr) (μ0 : eM), yR Z μ0 → (∀ (M : yM) (μ : eM), yR M μ → Nat.ble M.2.2 1000000 = true → ex_fine fg 4096 1000000 (d + 7, (f.1, f.2.1, f.2.2.1, eI (zI l) :: f.2.2.2), F, μ)) → ex_fine fg 4096 1000000 (d + 6, (300, 0, [some (eR 98), some (eI (zI s)), some (eI (zI φ)), none, none, none, none], []), f :: F, μ0)
theorem hC0_n {L φ : Nat} {ρ : Nat → Int} (hn : z_l0 φ = false) (hF : ∀ v ∈ [130, 16806, 174, 3981, 14005, 1371, 146893, 21208], z_eq v φ = false) : CRes (dt_fg L ρ) 0 φ 4294967295 gm0_z := by
  intro d f F μ0 hR K
  refine ms_184_ok (z_no_ok hF) hn (gc0 (y_T_ok L ρ)) (y_T_ok L ρ) gs0_n hR (y_is_ok gx_c0 hR).1 (by decide) ?_
  intro r M μ h hR2 hl2
  obtain ⟨g, h⟩ := f_if_ok h
  rw [Nat.eq_of_beq_eq_true g]
  exact K μ (y_sub_ok h hR2)
theorem hC0_130 {L φ : Nat} {ρ : Nat → Int} (hn : z_l0 φ = false) (hv : z_eq 130 φ = true) : CRes (dt_fg L ρ) 0 φ 1 gm0_z := by
  intro d f F μ0 hR K
  refine ms_184_ok (zT_is hv) hn (gc0 (y_T_ok L ρ)) (y_T_ok L ρ) gs0_130 hR (y_is_ok gx_c0 hR).1 (by decide) ?_
  intro r M μ h hR2 hl2
  obtain ⟨g, h⟩ := f_if_ok h
  rw [Nat.eq_of_beq_eq_true g]
  exact K μ (y_sub_ok h hR2)
theorem hC0_16806 {L φ : Nat} {ρ : Nat → Int} (hn : z_l0 φ = false) (hv : z_eq 16806 φ = true) : CRes (dt_fg L ρ) 0 φ 1 gm0_z := by
  intro d f F μ0 hR K
  refine ms_184_ok (zT_is hv) hn (gc0 (y_T_ok L ρ)) (y_T_ok L ρ) gs0_16806 hR (y_is_ok gx_c0 hR).1 (by decide) ?_
  intro r M μ h hR2 hl2
  obtain ⟨g, h⟩ := f_if_ok h
  rw [Nat.eq_of_beq_eq_true g]
  exact K μ (y_sub_ok h hR2)
theorem hC0_174 {L φ : Nat} {ρ : Nat → Int} (hn : z_l0 φ = false) (hv : z_eq 174 φ = true) : CRes (dt_fg L ρ) 0 φ 2 gm0_z := by
  intro d f F μ0 hR K
  refine ms_184_ok (zT_is hv) hn (gc0 (y_T_ok L ρ)) (y_T_ok L ρ) gs0_174 hR (y_is_ok gx_c0 hR).1 (by decide) ?_
  intro r M μ h hR2 hl2
  obtain ⟨g, h⟩ := f_if_ok h
  rw [Nat.eq_of_beq_eq_true g]
  exact K μ (y_sub_ok h hR2)
theorem hC0_3981 {L φ : Nat} {ρ : Nat → Int} (hn : z_l0 φ = false) (hv : z_eq 3981 φ = true) : CRes (dt_fg L ρ) 0 φ 2 gm0_z := by
  intro d f F μ0 hR K
  refine ms_184_ok (zT_is hv) hn (gc0 (y_T_ok L ρ)) (y_T_ok L ρ) gs0_3981 hR (y_is_ok gx_c0 hR).1 (by decide) ?_
  intro r M μ h hR2 hl2
  obtain ⟨g, h⟩ := f_if_ok h
  rw [Nat.eq_of_beq_eq_true g]
  exact K μ (y_sub_ok h hR2)
theorem hC0_14005 {L φ : Nat} {ρ : Nat → Int} (hn : z_l0 φ = false) (hv : z_eq 14005 φ = true) : CRes (dt_fg L ρ) 0 φ 2 gm0_z := by
  intro d f F μ0 hR K
  refine ms_184_ok (zT_is hv) hn (gc0 (y_T_ok L ρ)) (y_T_ok L ρ) gs0_14005 hR (y_is_ok gx_c0 hR).1 (by decide) ?_
  intro r M μ h hR2 hl2
  obtain ⟨g, h⟩ := f_if_ok h
  rw [Nat.eq_of_beq_eq_true g]
  exact K μ (y_sub_ok h hR2)
theorem hC0_1371 {L φ : Nat} {ρ : Nat → Int} (hn : z_l0 φ = false) (hv : z_eq 1371 φ = true) : CRes (dt_fg L ρ) 0 φ 3 gm0_z := by
  intro d f F μ0 hR K
  refine ms_184_ok (zT_is hv) hn (gc0 (y_T_ok L ρ)) (y_T_ok L ρ) gs0_1371 hR (y_is_ok gx_c0 hR).1 (by decide) ?_
  intro r M μ h hR2 hl2
  obtain ⟨g, h⟩ := f_if_ok h
  rw [Nat.eq_of_beq_eq_true g]
  exact K μ (y_sub_ok h hR2)
theorem hC0_146893 {L φ : Nat} {ρ : Nat → Int} (hn : z_l0 φ = false) (hv : z_eq 146893 φ = true) : CRes (dt_fg L ρ) 0 φ 3 gm0_z := by
  intro d f F μ0 hR K
  refine ms_184_ok (zT_is hv) hn (gc0 (y_T_ok L ρ)) (y_T_ok L ρ) gs0_146893 hR (y_is_ok gx_c0 hR).1 (by decide) ?_
  intro r M μ h hR2 hl2
  obtain ⟨g, h⟩ := f_if_ok h
  rw [Nat.eq_of_beq_eq_true g]
  exact K μ (y_sub_ok h hR2)
theorem hC0_21208 {L φ : Nat} {ρ : Nat → Int} (hn : z_l0 φ = false) (hv : z_eq 21208 φ = true) : CRes (dt_fg L ρ) 0 φ 4 gm0_z := by
  intro d f F μ0 hR K
  refine ms_184_ok (zT_is hv) hn (gc0 (y_T_ok L ρ)) (y_T_ok L ρ) gs0_21208 hR (y_is_ok gx_c0 hR).1 (by decide) ?_
  intro r M μ h hR2 hl2
  obtain ⟨g, h⟩ := f_if_ok h
  rw [Nat.eq_of_beq_eq_true g]
  exact K μ (y_sub_ok h hR2)
theorem hC1_n {L φ : Nat} {ρ : Nat → Int} (hn : z_l0 φ = false) (hF : ∀ v ∈ [174, 130, 146893, 1371, 3981, 16806], z_eq v φ = false) : CRes (dt_fg L ρ) 1 φ 4294967295 gm1_z := by
  intro d f F μ0 hR K
  refine ms_184_ok (z_no_ok hF) hn (gc1 (y_T_ok L ρ)) (y_T_ok L ρ) gs1_n hR (y_is_ok gx_c0 hR).1 (by decide) ?_
  intro r M μ h hR2 hl2
  obtain ⟨g, h⟩ := f_if_ok h
  rw [Nat.eq_of_beq_eq_true g]
  exact K μ (y_sub_ok h hR2)
theorem hC1_174 {L φ : Nat} {ρ : Nat → Int} (hn : z_l0 φ = false) (hv : z_eq 174 φ = true) : CRes (dt_fg L ρ) 1 φ 3 gm1_z := by
  intro d f F μ0 hR K
  refine ms_184_ok (zT_is hv) hn (gc1 (y_T_ok L ρ)) (y_T_ok L ρ) gs1_174 hR (y_is_ok gx_c0 hR).1 (by decide) ?_
  intro r M μ h hR2 hl2
  obtain ⟨g, h⟩ := f_if_ok h
  rw [Nat.eq_of_beq_eq_true g]
  exact K μ (y_sub_ok h hR2)
theorem hC1_130 {L φ : Nat} {ρ : Nat → Int} (hn : z_l0 φ = false) (hv : z_eq 130 φ = true) : CRes (dt_fg L ρ) 1 φ 4 gm1_z := by
  intro d f F μ0 hR K
  refine ms_184_ok (zT_is hv) hn (gc1 (y_T_ok L ρ)) (y_T_ok L ρ) gs1_130 hR (y_is_ok gx_c0 hR).1 (by decide) ?_
  intro r M μ h hR2 hl2
  obtain ⟨g, h⟩ := f_if_ok h
  rw [Nat.eq_of_beq_eq_true g]
  exact K μ (y_sub_ok h hR2)
theorem hC1_146893 {L φ : Nat} {ρ : Nat → Int} (hn : z_l0 φ = false) (hv : z_eq 146893 φ = true) : CRes (dt_fg L ρ) 1 φ 4 gm1_z := by
  intro d f F μ0 hR K
  refine ms_184_ok (zT_is hv) hn (gc1 (y_T_ok L ρ)) (y_T_ok L ρ) gs1_146893 hR (y_is_ok gx_c0 hR).1 (by decide) ?_
  intro r M μ h hR2 hl2
  obtain ⟨g, h⟩ := f_if_ok h
  rw [Nat.eq_of_beq_eq_true g]
  exact K μ (y_sub_ok h hR2)
theorem hC1_1371 {L φ : Nat} {ρ : Nat → Int} (hn : z_l0 φ = false) (hv : z_eq 1371 φ = true) : CRes (dt_fg L ρ) 1 φ 5 gm1_z := by
  intro d f F μ0 hR K
  refine ms_184_ok (zT_is hv) hn (gc1 (y_T_ok L ρ)) (y_T_ok L ρ) gs1_1371 hR (y_is_ok gx_c0 hR).1 (by decide) ?_
  intro r M μ h hR2 hl2
  obtain ⟨g, h⟩ := f_if_ok h
  rw [Nat.eq_of_beq_eq_true g]
  exact K μ (y_sub_ok h hR2)
theorem hC1_3981 {L φ : Nat} {ρ : Nat → Int} (hn : z_l0 φ = false) (hv : z_eq 3981 φ = true) : CRes (dt_fg L ρ) 1 φ 5 gm1_z := by
  intro d f F μ0 hR K
  refine ms_184_ok (zT_is hv) hn (gc1 (y_T_ok L ρ)) (y_T_ok L ρ) gs1_3981 hR (y_is_ok gx_c0 hR).1 (by decide) ?_
  intro r M μ h hR2 hl2
  obtain ⟨g, h⟩ := f_if_ok h
  rw [Nat.eq_of_beq_eq_true g]
  exact K μ (y_sub_ok h hR2)
theorem hC1_16806 {L φ : Nat} {ρ : Nat → Int} (hn : z_l0 φ = false) (hv : z_eq 16806 φ = true) : CRes (dt_fg L ρ) 1 φ 5 gm1_z := by
  intro d f F μ0 hR K
  refine ms_184_ok (zT_is hv) hn (gc1 (y_T_ok L ρ)) (y_T_ok L ρ) gs1_16806 hR (y_is_ok gx_c0 hR).1 (by decide) ?_
  intro r M μ h hR2 hl2
  obtain ⟨g, h⟩ := f_if_ok h
  rw [Nat.eq_of_beq_eq_true g]
  exact K μ (y_sub_ok h hR2)
theorem hC2_n {L φ : Nat} {ρ : Nat → Int} (hn : z_l0 φ = false) (hF : ∀ v ∈ [174, 130, 1371, 3981, 146893, 16806, 21208], z_eq v φ = false) : CRes (dt_fg L ρ) 2 φ 4294967295 gm2_z := by
  intro d f F μ0 hR K
  refine ms_184_ok (z_no_ok hF) hn (gc2 (y_T_ok L ρ)) (y_T_ok L ρ) gs2_n hR (y_is_ok gx_c0 hR).1 (by decide) ?_
  intro r M μ h hR2 hl2
  obtain ⟨g, h⟩ := f_if_ok h
  rw [Nat.eq_of_beq_eq_true g]
  exact K μ (y_sub_ok h hR2)
theorem hC2_174 {L φ : Nat} {ρ : Nat → Int} (hn : z_l0 φ = false) (hv : z_eq 174 φ = true) : CRes (dt_fg L ρ) 2 φ 3 gm2_z := by
  intro d f F μ0 hR K
  refine ms_184_ok (zT_is hv) hn (gc2 (y_T_ok L ρ)) (y_T_ok L ρ) gs2_174 hR (y_is_ok gx_c0 hR).1 (by decide) ?_
  intro r M μ h hR2 hl2
  obtain ⟨g, h⟩ := f_if_ok h
  rw [Nat.eq_of_beq_eq_true g]
  exact K μ (y_sub_ok h hR2)
theorem hC2_130 {L φ : Nat} {ρ : Nat → Int} (hn : z_l0 φ = false) (hv : z_eq 130 φ = true) : CRes (dt_fg L ρ) 2 φ 4 gm2_z := by
  intro d f F μ0 hR K
  refine ms_184_ok (zT_is hv) hn (gc2 (y_T_ok L ρ)) (y_T_ok L ρ) gs2_130 hR (y_is_ok gx_c0 hR).1 (by decide) ?_
  intro r M μ h hR2 hl2
  obtain ⟨g, h⟩ := f_if_ok h
  rw [Nat.eq_of_beq_eq_true g]
  exact K μ (y_sub_ok h hR2)
theorem hC2_1371 {L φ : Nat} {ρ : Nat → Int} (hn : z_l0 φ = false) (hv : z_eq 1371 φ = true) : CRes (dt_fg L ρ) 2 φ 4 gm2_z := by
  intro d f F μ0 hR K
  refine ms_184_ok (zT_is hv) hn (gc2 (y_T_ok L ρ)) (y_T_ok L ρ) gs2_1371 hR (y_is_ok gx_c0 hR).1 (by decide) ?_
  intro r M μ h hR2 hl2
  obtain ⟨g, h⟩ := f_if_ok h
  rw [Nat.eq_of_beq_eq_true g]
  exact K μ (y_sub_ok h hR2)
theorem hC2_3981 {L φ : Nat} {ρ : Nat → Int} (hn : z_l0 φ = false) (hv : z_eq 3981 φ = true) : CRes (dt_fg L ρ) 2 φ 4 gm2_z := by
  intro d f F μ0 hR K
  refine ms_184_ok (zT_is hv) hn (gc2 (y_T_ok L ρ)) (y_T_ok L ρ) gs2_3981 hR (y_is_ok gx_c0 hR).1 (by decide) ?_
  intro r M μ h hR2 hl2
  obtain ⟨g, h⟩ := f_if_ok h
  rw [Nat.eq_of_beq_eq_true g]
  exact K μ (y_sub_ok h hR2)
theorem hC2_146893 {L φ : Nat} {ρ : Nat → Int} (hn : z_l0 φ = false) (hv : z_eq 146893 φ = true) : CRes (dt_fg L ρ) 2 φ 4 gm2_z := by
  intro d f F μ0 hR K
  refine ms_184_ok (zT_is hv) hn (gc2 (y_T_ok L ρ)) (y_T_ok L ρ) gs2_146893 hR (y_is_ok gx_c0 hR).1 (by decide) ?_
  intro r M μ h hR2 hl2
  obtain ⟨g, h⟩ := f_if_ok h
  rw [Nat.eq_of_beq_eq_true g]
  exact K μ (y_sub_ok h hR2)
theorem hC2_16806 {L φ : Nat} {ρ : Nat → Int} (hn : z_l0 φ = false) (hv : z_eq 16806 φ = true) : CRes (dt_fg L ρ) 2 φ 5 gm2_z := by
  intro d f F μ0 hR K
  refine ms_184_ok (zT_is hv) hn (gc2 (y_T_ok L ρ)) (y_T_ok L ρ) gs2_16806 hR (y_is_ok gx_c0 hR).1 (by decide) ?_
  intro r M μ h hR2 hl2
  obtain ⟨g, h⟩ := f_if_ok h
  rw [Nat.eq_of_beq_eq_true g]
  exact K μ (y_sub_ok h hR2)
theorem hC2_21208 {L φ : Nat} {ρ : Nat → Int} (hn : z_l0 φ = false) (hv : z_eq 21208 φ = true) : CRes (dt_fg L ρ) 2 φ 5 gm2_z := by
  intro d f F μ0 hR K
  refine ms_184_ok (zT_is hv) hn (gc2 (y_T_ok L ρ)) (y_T_ok L ρ) gs2_21208 hR (y_is_ok gx_c0 hR).1 (by decide) ?_
  intro r M μ h hR2 hl2
  obtain ⟨g, h⟩ := f_if_ok h
  rw [Nat.eq_of_beq_eq_true g]
  exact K μ (y_sub_ok h hR2)
theorem hC3_n {L φ : Nat} {ρ : Nat → Int} (hn : z_l0 φ = false) (hF : ∀ v ∈ [130, 1371, 174, 3981, 21208, 16806, 146893, 14005], z_eq v φ = false) : CRes (dt_fg L ρ) 3 φ 4294967295 gm3_z := by
  intro d f F μ0 hR K
  refine ms_184_ok (z_no_ok hF) hn (gc3 (y_T_ok L ρ)) (y_T_ok L ρ) gs3_n hR (y_is_ok gx_c0 hR).1 (by decide) ?_
  intro r M μ h hR2 hl2
  obtain ⟨g, h⟩ := f_if_ok h
  rw [Nat.eq_of_beq_eq_true g]
  exact K μ (y_sub_ok h hR2)
theorem hC3_130 {L φ : Nat} {ρ : Nat → Int} (hn : z_l0 φ = false) (hv : z_eq 130 φ = true) : CRes (dt_fg L ρ) 3 φ 2 gm3_z := by
  intro d f F μ0 hR K
  refine ms_184_ok (zT_is hv) hn (gc3 (y_T_ok L ρ)) (y_T_ok L ρ) gs3_130 hR (y_is_ok gx_c0 hR).1 (by decide) ?_
  intro r M μ h hR2 hl2
  obtain ⟨g, h⟩ := f_if_ok h
  rw [Nat.eq_of_beq_eq_true g]
  exact K μ (y_sub_ok h hR2)
theorem hC3_1371 {L φ : Nat} {ρ : Nat → Int} (hn : z_l0 φ = false) (hv : z_eq 1371 φ = true) : CRes (dt_fg L ρ) 3 φ 2 gm3_z := by
  intro d f F μ0 hR K
  refine ms_184_ok (zT_is hv) hn (gc3 (y_T_ok L ρ)) (y_T_ok L ρ) gs3_1371 hR (y_is_ok gx_c0 hR).1 (by decide) ?_
  intro r M μ h hR2 hl2
  obtain ⟨g, h⟩ := f_if_ok h
  rw [Nat.eq_of_beq_eq_true g]
  exact K μ (y_sub_ok h hR2)
theorem hC3_174 {L φ : Nat} {ρ : Nat → Int} (hn : z_l0 φ = false) (hv : z_eq 174 φ = true) : CRes (dt_fg L ρ) 3 φ 3 gm3_z := by
  intro d f F μ0 hR K
  refine ms_184_ok (zT_is hv) hn (gc3 (y_T_ok L ρ)) (y_T_ok L ρ) gs3_174 hR (y_is_ok gx_c0 hR).1 (by decide) ?_
  intro r M μ h hR2 hl2
  obtain ⟨g, h⟩ := f_if_ok h
  rw [Nat.eq_of_beq_eq_true g]
  exact K μ (y_sub_ok h hR2)
theorem hC3_3981 {L φ : Nat} {ρ : Nat → Int} (hn : z_l0 φ = false) (hv : z_eq 3981 φ = true) : CRes (dt_fg L ρ) 3 φ 3 gm3_z := by
  intro d f F μ0 hR K
  refine ms_184_ok (zT_is hv) hn (gc3 (y_T_ok L ρ)) (y_T_ok L ρ) gs3_3981 hR (y_is_ok gx_c0 hR).1 (by decide) ?_
  intro r M μ h hR2 hl2
  obtain ⟨g, h⟩ := f_if_ok h
  rw [Nat.eq_of_beq_eq_true g]
  exact K μ (y_sub_ok h hR2)
theorem hC3_21208 {L φ : Nat} {ρ : Nat → Int} (hn : z_l0 φ = false) (hv : z_eq 21208 φ = true) : CRes (dt_fg L ρ) 3 φ 3 gm3_z := by
  intro d f F μ0 hR K
  refine ms_184_ok (zT_is hv) hn (gc3 (y_T_ok L ρ)) (y_T_ok L ρ) gs3_21208 hR (y_is_ok gx_c0 hR).1 (by decide) ?_
  intro r M μ h hR2 hl2
  obtain ⟨g, h⟩ := f_if_ok h
  rw [Nat.eq_of_beq_eq_true g]
  exact K μ (y_sub_ok h hR2)
theorem hC3_16806 {L φ : Nat} {ρ : Nat → Int} (hn : z_l0 φ = false) (hv : z_eq 16806 φ = true) : CRes (dt_fg L ρ) 3 φ 4 gm3_z := by
  intro d f F μ0 hR K
  refine ms_184_ok (zT_is hv) hn (gc3 (y_T_ok L ρ)) (y_T_ok L ρ) gs3_16806 hR (y_is_ok gx_c0 hR).1 (by decide) ?_
  intro r M μ h hR2 hl2
  obtain ⟨g, h⟩ := f_if_ok h
  rw [Nat.eq_of_beq_eq_true g]
  exact K μ (y_sub_ok h hR2)
theorem hC3_146893 {L φ : Nat} {ρ : Nat → Int} (hn : z_l0 φ = false) (hv : z_eq 146893 φ = true) : CRes (dt_fg L ρ) 3 φ 4 gm3_z := by
  intro d f F μ0 hR K
  refine ms_184_ok (zT_is hv) hn (gc3 (y_T_ok L ρ)) (y_T_ok L ρ) gs3_146893 hR (y_is_ok gx_c0 hR).1 (by decide) ?_
  intro r M μ h hR2 hl2
  obtain ⟨g, h⟩ := f_if_ok h
  rw [Nat.eq_of_beq_eq_true g]
  exact K μ (y_sub_ok h hR2)
theorem hC3_14005 {L φ : Nat} {ρ : Nat → Int} (hn : z_l0 φ = false) (hv : z_eq 14005 φ = true) : CRes (dt_fg L ρ) 3 φ 5 gm3_z := by
  intro d f F μ0 hR K
  refine ms_184_ok (zT_is hv) hn (gc3 (y_T_ok L ρ)) (y_T_ok L ρ) gs3_14005 hR (y_is_ok gx_c0 hR).1 (by decide) ?_
  intro r M μ h hR2 hl2
  obtain ⟨g, h⟩ := f_if_ok h
  rw [Nat.eq_of_beq_eq_true g]
  exact K μ (y_sub_ok h hR2)
