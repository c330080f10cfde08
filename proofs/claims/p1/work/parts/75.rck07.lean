/-! THE REFERENCE: its runs, checked -/
set_option maxRecDepth 100000 in
theorem hn3_0 : mr_300_44b (z_no [4294967295]) (mo3 98 3 0 rm3_0 rl3_0) 98 3 (fun _ _ => false) (tR 4294967295 1 rm3_1) 0 0 4294967295 0 rm3_0 = true := by decide +kernel
set_option maxRecDepth 100000 in
theorem hn3_1 : mr_300_44b (z_no [4294967295]) (mo3 98 3 1 rm3_1 rl3_1) 98 3 (fun _ _ => false) (tR 4294967295 2 rm3_2) 0 0 4294967295 1 rm3_1 = true := by decide +kernel
set_option maxRecDepth 100000 in
theorem hn3_2 : mr_300_44b (z_no [4294967295, 130, 1371]) (mo3 98 3 2 rm3_2 rl3_2) 98 3 (fun _ _ => false) (tR 4294967295 3 rm3_3) 0 0 4294967295 2 rm3_2 = true := by decide +kernel
set_option maxRecDepth 100000 in
theorem hf3_130 : mr_300_44b (z_is 130) (mo3 98 3 2 rm3_2 rl3_2) 98 3 (fun _ _ => false) (tR 2 3 rf3_2_130) 0 0 4294967295 2 rm3_2 = true := by decide +kernel
set_option maxRecDepth 100000 in
theorem hz3_130 : mr_300_44b (z_no []) m_239 98 3 (kE 2) (fun _ _ _ _ _ => false) 0 0 2 3 rf3_2_130 = true := by decide +kernel
set_option maxRecDepth 100000 in
theorem hf3_1371 : mr_300_44b (z_is 1371) (mo3 98 3 2 rm3_2 rl3_2) 98 3 (fun _ _ => false) (tR 2 3 rf3_2_1371) 0 0 4294967295 2 rm3_2 = true := by decide +kernel
set_option maxRecDepth 100000 in
theorem hz3_1371 : mr_300_44b (z_no []) m_239 98 3 (kE 2) (fun _ _ _ _ _ => false) 0 0 2 3 rf3_2_1371 = true := by decide +kernel
set_option maxRecDepth 100000 in
theorem hn3_3 : mr_300_44b (z_no [4294967295, 130, 174, 1371, 3981, 21208]) (mo3 98 3 3 rm3_3 rl3_3) 98 3 (fun _ _ => false) (tR 4294967295 4 rm3_4) 0 0 4294967295 3 rm3_3 = true := by decide +kernel
set_option maxRecDepth 100000 in
theorem hf3_174 : mr_300_44b (z_is 174) (mo3 98 3 3 rm3_3 rl3_3) 98 3 (fun _ _ => false) (tR 3 4 rf3_3_174) 0 0 4294967295 3 rm3_3 = true := by decide +kernel
set_option maxRecDepth 100000 in
theorem hz3_174 : mr_300_44b (z_no []) m_239 98 3 (kE 3) (fun _ _ _ _ _ => false) 0 0 3 4 rf3_3_174 = true := by decide +kernel
set_option maxRecDepth 100000 in
theorem hf3_3981 : mr_300_44b (z_is 3981) (mo3 98 3 3 rm3_3 rl3_3) 98 3 (fun _ _ => false) (tR 3 4 rf3_3_3981) 0 0 4294967295 3 rm3_3 = true := by decide +kernel
set_option maxRecDepth 100000 in
theorem hz3_3981 : mr_300_44b (z_no []) m_239 98 3 (kE 3) (fun _ _ _ _ _ => false) 0 0 3 4 rf3_3_3981 = true := by decide +kernel
set_option maxRecDepth 100000 in
theorem hf3_21208 : mr_300_44b (z_is 21208) (mo3 98 3 3 rm3_3 rl3_3) 98 3 (fun _ _ => false) (tR 3 4 rf3_3_21208) 0 0 4294967295 3 rm3_3 = true := by decide +kernel
set_option maxRecDepth 100000 in
theorem hz3_21208 : mr_300_44b (z_no []) m_239 98 3 (kE 3) (fun _ _ _ _ _ => false) 0 0 3 4 rf3_3_21208 = true := by decide +kernel
set_option maxRecDepth 100000 in
theorem hn3_4 : mr_300_44b (z_no [4294967295, 130, 174, 1371, 3981, 16806, 21208, 146893]) (mo3 98 3 4 rm3_4 rl3_4) 98 3 (fun _ _ => false) (tR 4294967295 5 rm3_5) 0 0 4294967295 4 rm3_4 = true := by decide +kernel
set_option maxRecDepth 100000 in
theorem hf3_16806 : mr_300_44b (z_is 16806) (mo3 98 3 4 rm3_4 rl3_4) 98 3 (fun _ _ => false) (tR 4 5 rf3_4_16806) 0 0 4294967295 4 rm3_4 = true := by decide +kernel
set_option maxRecDepth 100000 in
theorem hz3_16806 : mr_300_44b (z_no []) m_239 98 3 (kE 4) (fun _ _ _ _ _ => false) 0 0 4 5 rf3_4_16806 = true := by decide +kernel
set_option maxRecDepth 100000 in
theorem hf3_146893 : mr_300_44b (z_is 146893) (mo3 98 3 4 rm3_4 rl3_4) 98 3 (fun _ _ => false) (tR 4 5 rf3_4_146893) 0 0 4294967295 4 rm3_4 = true := by decide +kernel
set_option maxRecDepth 100000 in
theorem hz3_146893 : mr_300_44b (z_no []) m_239 98 3 (kE 4) (fun _ _ _ _ _ => false) 0 0 4 5 rf3_4_146893 = true := by decide +kernel
set_option maxRecDepth 100000 in
theorem hn3_5 : mr_300_44b (z_no [4294967295, 130, 174, 1371, 3981, 14005, 16806, 21208, 146893]) (mo3 98 3 5 rm3_5 rl3_5) 98 3 (fun _ _ => false) (tR 4294967295 6 rm3_6) 0 0 4294967295 5 rm3_5 = true := by decide +kernel
set_option maxRecDepth 100000 in
theorem hf3_14005 : mr_300_44b (z_is 14005) (mo3 98 3 5 rm3_5 rl3_5) 98 3 (fun _ _ => false) (tR 5 6 rf3_5_14005) 0 0 4294967295 5 rm3_5 = true := by decide +kernel
set_option maxRecDepth 100000 in
theorem hz3_14005 : mr_300_44b (z_no []) m_239 98 3 (kE 5) (fun _ _ _ _ _ => false) 0 0 5 6 rf3_5_14005 = true := by decide +kernel
set_option maxRecDepth 100000 in
theorem hz3_n : mr_300_44b (z_no []) m_239 98 3 (kE 4294967295) (fun _ _ _ _ _ => false) 0 0 4294967295 6 rm3_6 = true := by decide +kernel
set_option maxRecDepth 100000 in
theorem hr0_e : mr_300 (z_no []) m_239 (tR 4294967295 0 rm0_0) 98 0 gm0_z (fun _ _ => false) = true := by decide +kernel
set_option maxRecDepth 100000 in
theorem hl0_0 : m_239 98 0 0 rm0_0 (fun M => y_sub M rl0_0) = true := by decide +kernel
