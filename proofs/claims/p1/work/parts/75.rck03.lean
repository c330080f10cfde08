/-! THE REFERENCE: its runs, checked -/
set_option maxRecDepth 100000 in
theorem hl2_5 : m_239 98 2 5 rm2_5 (fun M => y_sub M rl2_5) = true := by decide +kernel
set_option maxRecDepth 100000 in
theorem hn2_0 : mr_300_44b (z_no [4294967295]) (mo3 98 2 0 rm2_0 rl2_0) 98 2 (fun _ _ => false) (tR 4294967295 1 rm2_1) 0 0 4294967295 0 rm2_0 = true := by decide +kernel
set_option maxRecDepth 100000 in
theorem hn2_1 : mr_300_44b (z_no [4294967295]) (mo3 98 2 1 rm2_1 rl2_1) 98 2 (fun _ _ => false) (tR 4294967295 2 rm2_2) 0 0 4294967295 1 rm2_1 = true := by decide +kernel
set_option maxRecDepth 100000 in
theorem hn2_2 : mr_300_44b (z_no [4294967295]) (mo3 98 2 2 rm2_2 rl2_2) 98 2 (fun _ _ => false) (tR 4294967295 3 rm2_3) 0 0 4294967295 2 rm2_2 = true := by decide +kernel
set_option maxRecDepth 100000 in
theorem hn2_3 : mr_300_44b (z_no [4294967295, 174]) (mo3 98 2 3 rm2_3 rl2_3) 98 2 (fun _ _ => false) (tR 4294967295 4 rm2_4) 0 0 4294967295 3 rm2_3 = true := by decide +kernel
set_option maxRecDepth 100000 in
theorem hf2_174 : mr_300_44b (z_is 174) (mo3 98 2 3 rm2_3 rl2_3) 98 2 (fun _ _ => false) (tR 3 4 rf2_3_174) 0 0 4294967295 3 rm2_3 = true := by decide +kernel
set_option maxRecDepth 100000 in
theorem hz2_174 : mr_300_44b (z_no []) m_239 98 2 (kE 3) (fun _ _ _ _ _ => false) 0 0 3 4 rf2_3_174 = true := by decide +kernel
set_option maxRecDepth 100000 in
theorem hn2_4 : mr_300_44b (z_no [4294967295, 130, 174, 1371, 3981, 146893]) (mo3 98 2 4 rm2_4 rl2_4) 98 2 (fun _ _ => false) (tR 4294967295 5 rm2_5) 0 0 4294967295 4 rm2_4 = true := by decide +kernel
set_option maxRecDepth 100000 in
theorem hf2_130 : mr_300_44b (z_is 130) (mo3 98 2 4 rm2_4 rl2_4) 98 2 (fun _ _ => false) (tR 4 5 rf2_4_130) 0 0 4294967295 4 rm2_4 = true := by decide +kernel
set_option maxRecDepth 100000 in
theorem hz2_130 : mr_300_44b (z_no []) m_239 98 2 (kE 4) (fun _ _ _ _ _ => false) 0 0 4 5 rf2_4_130 = true := by decide +kernel
set_option maxRecDepth 100000 in
theorem hf2_1371 : mr_300_44b (z_is 1371) (mo3 98 2 4 rm2_4 rl2_4) 98 2 (fun _ _ => false) (tR 4 5 rf2_4_1371) 0 0 4294967295 4 rm2_4 = true := by decide +kernel
set_option maxRecDepth 100000 in
theorem hz2_1371 : mr_300_44b (z_no []) m_239 98 2 (kE 4) (fun _ _ _ _ _ => false) 0 0 4 5 rf2_4_1371 = true := by decide +kernel
set_option maxRecDepth 100000 in
theorem hf2_3981 : mr_300_44b (z_is 3981) (mo3 98 2 4 rm2_4 rl2_4) 98 2 (fun _ _ => false) (tR 4 5 rf2_4_3981) 0 0 4294967295 4 rm2_4 = true := by decide +kernel
set_option maxRecDepth 100000 in
theorem hz2_3981 : mr_300_44b (z_no []) m_239 98 2 (kE 4) (fun _ _ _ _ _ => false) 0 0 4 5 rf2_4_3981 = true := by decide +kernel
set_option maxRecDepth 100000 in
theorem hf2_146893 : mr_300_44b (z_is 146893) (mo3 98 2 4 rm2_4 rl2_4) 98 2 (fun _ _ => false) (tR 4 5 rf2_4_146893) 0 0 4294967295 4 rm2_4 = true := by decide +kernel
set_option maxRecDepth 100000 in
theorem hz2_146893 : mr_300_44b (z_no []) m_239 98 2 (kE 4) (fun _ _ _ _ _ => false) 0 0 4 5 rf2_4_146893 = true := by decide +kernel
set_option maxRecDepth 100000 in
theorem hn2_5 : mr_300_44b (z_no [4294967295, 130, 174, 1371, 3981, 16806, 21208, 146893]) (mo3 98 2 5 rm2_5 rl2_5) 98 2 (fun _ _ => false) (tR 4294967295 6 rm2_6) 0 0 4294967295 5 rm2_5 = true := by decide +kernel
set_option maxRecDepth 100000 in
theorem hf2_16806 : mr_300_44b (z_is 16806) (mo3 98 2 5 rm2_5 rl2_5) 98 2 (fun _ _ => false) (tR 5 6 rf2_5_16806) 0 0 4294967295 5 rm2_5 = true := by decide +kernel
