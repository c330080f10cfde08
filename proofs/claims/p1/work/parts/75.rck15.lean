/-! THE REFERENCE: its runs, checked -/
set_option maxRecDepth 100000 in
theorem hf0_14005 : mr_300_44b (z_is 14005) (mo3 98 0 2 rm0_2 rl0_2) 98 0 (fun _ _ => false) (tR 2 3 rf0_2_14005) 0 0 4294967295 2 rm0_2 = true := by decide +kernel
set_option maxRecDepth 100000 in
theorem hz0_14005 : mr_300_44b (z_no []) m_239 98 0 (kE 2) (fun _ _ _ _ _ => false) 0 0 2 3 rf0_2_14005 = true := by decide +kernel
set_option maxRecDepth 100000 in
theorem hn0_3 : mr_300_44b (z_no [4294967295, 130, 174, 1371, 3981, 16806, 146893]) (mo3 98 0 3 rm0_3 rl0_3) 98 0 (fun _ _ => false) (tR 4294967295 4 rm0_4) 0 0 4294967295 3 rm0_3 = true := by decide +kernel
set_option maxRecDepth 100000 in
theorem hf0_1371 : mr_300_44b (z_is 1371) (mo3 98 0 3 rm0_3 rl0_3) 98 0 (fun _ _ => false) (tR 3 4 rf0_3_1371) 0 0 4294967295 3 rm0_3 = true := by decide +kernel
set_option maxRecDepth 100000 in
theorem hz0_1371 : mr_300_44b (z_no []) m_239 98 0 (kE 3) (fun _ _ _ _ _ => false) 0 0 3 4 rf0_3_1371 = true := by decide +kernel
set_option maxRecDepth 100000 in
theorem hf0_146893 : mr_300_44b (z_is 146893) (mo3 98 0 3 rm0_3 rl0_3) 98 0 (fun _ _ => false) (tR 3 4 rf0_3_146893) 0 0 4294967295 3 rm0_3 = true := by decide +kernel
set_option maxRecDepth 100000 in
theorem hz0_146893 : mr_300_44b (z_no []) m_239 98 0 (kE 3) (fun _ _ _ _ _ => false) 0 0 3 4 rf0_3_146893 = true := by decide +kernel
set_option maxRecDepth 100000 in
theorem hn0_4 : mr_300_44b (z_no [4294967295, 130, 174, 1371, 3981, 14005, 16806, 21208, 146893]) (mo3 98 0 4 rm0_4 rl0_4) 98 0 (fun _ _ => false) (tR 4294967295 5 rm0_5) 0 0 4294967295 4 rm0_4 = true := by decide +kernel
set_option maxRecDepth 100000 in
theorem hf0_21208 : mr_300_44b (z_is 21208) (mo3 98 0 4 rm0_4 rl0_4) 98 0 (fun _ _ => false) (tR 4 5 rf0_4_21208) 0 0 4294967295 4 rm0_4 = true := by decide +kernel
set_option maxRecDepth 100000 in
theorem hz0_21208 : mr_300_44b (z_no []) m_239 98 0 (kE 4) (fun _ _ _ _ _ => false) 0 0 4 5 rf0_4_21208 = true := by decide +kernel
set_option maxRecDepth 100000 in
theorem hn0_5 : mq_300_44b (z_no [4294967295, 130, 174, 1371, 3981, 14005, 16806, 21208, 146893]) (mo3 98 0 5 rm0_5 rl0_5) (mo1n 98 rl0_5 0 rm0_6) 98 0 (fun _ _ => false) (tR 4294967295 6 rm0_6) 0 0 4294967295 5 rm0_5 = true := by decide +kernel
