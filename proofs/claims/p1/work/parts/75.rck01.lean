/-! THE REFERENCE: its runs, checked -/
set_option maxRecDepth 100000 in
theorem hl1_5 : m_239 98 1 5 rm1_5 (fun M => y_sub M rl1_5) = true := by decide +kernel
set_option maxRecDepth 100000 in
theorem hn1_0 : mr_300_44b (z_no [4294967295]) (mo3 98 1 0 rm1_0 rl1_0) 98 1 (fun _ _ => false) (tR 4294967295 1 rm1_1) 0 0 4294967295 0 rm1_0 = true := by decide +kernel
set_option maxRecDepth 100000 in
theorem hn1_1 : mr_300_44b (z_no [4294967295]) (mo3 98 1 1 rm1_1 rl1_1) 98 1 (fun _ _ => false) (tR 4294967295 2 rm1_2) 0 0 4294967295 1 rm1_1 = true := by decide +kernel
set_option maxRecDepth 100000 in
theorem hn1_2 : mr_300_44b (z_no [4294967295]) (mo3 98 1 2 rm1_2 rl1_2) 98 1 (fun _ _ => false) (tR 4294967295 3 rm1_3) 0 0 4294967295 2 rm1_2 = true := by decide +kernel
set_option maxRecDepth 100000 in
theorem hn1_3 : mr_300_44b (z_no [4294967295, 174]) (mo3 98 1 3 rm1_3 rl1_3) 98 1 (fun _ _ => false) (tR 4294967295 4 rm1_4) 0 0 4294967295 3 rm1_3 = true := by decide +kernel
set_option maxRecDepth 100000 in
theorem hf1_174 : mr_300_44b (z_is 174) (mo3 98 1 3 rm1_3 rl1_3) 98 1 (fun _ _ => false) (tR 3 4 rf1_3_174) 0 0 4294967295 3 rm1_3 = true := by decide +kernel
set_option maxRecDepth 100000 in
theorem hz1_174 : mr_300_44b (z_no []) m_239 98 1 (kE 3) (fun _ _ _ _ _ => false) 0 0 3 4 rf1_3_174 = true := by decide +kernel
set_option maxRecDepth 100000 in
theorem hn1_4 : mr_300_44b (z_no [4294967295, 130, 174, 146893]) (mo3 98 1 4 rm1_4 rl1_4) 98 1 (fun _ _ => false) (tR 4294967295 5 rm1_5) 0 0 4294967295 4 rm1_4 = true := by decide +kernel
set_option maxRecDepth 100000 in
theorem hf1_130 : mr_300_44b (z_is 130) (mo3 98 1 4 rm1_4 rl1_4) 98 1 (fun _ _ => false) (tR 4 5 rf1_4_130) 0 0 4294967295 4 rm1_4 = true := by decide +kernel
set_option maxRecDepth 100000 in
theorem hz1_130 : mr_300_44b (z_no []) m_239 98 1 (kE 4) (fun _ _ _ _ _ => false) 0 0 4 5 rf1_4_130 = true := by decide +kernel
set_option maxRecDepth 100000 in
theorem hf1_146893 : mr_300_44b (z_is 146893) (mo3 98 1 4 rm1_4 rl1_4) 98 1 (fun _ _ => false) (tR 4 5 rf1_4_146893) 0 0 4294967295 4 rm1_4 = true := by decide +kernel
set_option maxRecDepth 100000 in
theorem hz1_146893 : mr_300_44b (z_no []) m_239 98 1 (kE 4) (fun _ _ _ _ _ => false) 0 0 4 5 rf1_4_146893 = true := by decide +kernel
set_option maxRecDepth 100000 in
theorem hn1_5 : mr_300_44b (z_no [4294967295, 130, 174, 1371, 3981, 16806, 146893]) (mo3 98 1 5 rm1_5 rl1_5) 98 1 (fun _ _ => false) (tR 4294967295 6 rm1_6) 0 0 4294967295 5 rm1_5 = true := by decide +kernel
set_option maxRecDepth 100000 in
theorem hf1_1371 : mr_300_44b (z_is 1371) (mo3 98 1 5 rm1_5 rl1_5) 98 1 (fun _ _ => false) (tR 5 6 rf1_5_1371) 0 0 4294967295 5 rm1_5 = true := by decide +kernel
set_option maxRecDepth 100000 in
theorem hz1_1371 : mr_300_44b (z_no []) m_239 98 1 (kE 5) (fun _ _ _ _ _ => false) 0 0 5 6 rf1_5_1371 = true := by decide +kernel
set_option maxRecDepth 100000 in
theorem hf1_3981 : mr_300_44b (z_is 3981) (mo3 98 1 5 rm1_5 rl1_5) 98 1 (fun _ _ => false) (tR 5 6 rf1_5_3981) 0 0 4294967295 5 rm1_5 = true := by decide +kernel
set_option maxRecDepth 100000 in
theorem hz1_3981 : mr_300_44b (z_no []) m_239 98 1 (kE 5) (fun _ _ _ _ _ => false) 0 0 5 6 rf1_5_3981 = true := by decide +kernel
set_option maxRecDepth 100000 in
theorem hf1_16806 : mr_300_44b (z_is 16806) (mo3 98 1 5 rm1_5 rl1_5) 98 1 (fun _ _ => false) (tR 5 6 rf1_5_16806) 0 0 4294967295 5 rm1_5 = true := by decide +kernel
set_option maxRecDepth 100000 in
theorem hz1_16806 : mr_300_44b (z_no []) m_239 98 1 (kE 5) (fun _ _ _ _ _ => false) 0 0 5 6 rf1_5_16806 = true := by decide +kernel
set_option maxRecDepth 100000 in
theorem hz1_n : mr_300_44b (z_no []) m_239 98 1 (kE 4294967295) (fun _ _ _ _ _ => false) 0 0 4294967295 6 rm1_6 = true := by decide +kernel
set_option maxRecDepth 100000 in
theorem hr2_e : mr_300 (z_no []) m_239 (tR 4294967295 0 rm2_0) 98 2 gm2_z (fun _ _ => false) = true := by decide +kernel
set_option maxRecDepth 100000 in
theorem hl2_0 : m_239 98 2 0 rm2_0 (fun M => y_sub M rl2_0) = true := by decide +kernel
set_option maxRecDepth 100000 in
theorem hl2_1 : m_239 98 2 1 rm2_1 (fun M => y_sub M rl2_1) = true := by decide +kernel
