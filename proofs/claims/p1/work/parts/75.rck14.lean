/-! THE REFERENCE: its runs, checked -/
set_option maxRecDepth 100000 in
theorem hk_4 : mg_239_10r (mo1 98 sk_4 sk_5) 98 0 5 (fun _ => false) (tH 0 sk_77) (fun _ _ => false) (fun _ => false) 2 sk_4 = true := by decide +kernel
set_option maxRecDepth 100000 in
theorem hk_77 : mg_239_77r m_234 98 0 5 (fun _ => false) (fun _ => false) (tH 0 sk_135) (fun _ _ => false) 5000 0 sk_77 = true := by decide +kernel
set_option maxRecDepth 100000 in
theorem hk_135 : mg_239_135r m_234 98 0 5 (fun M => y_sub M rl0_5) (fun _ => false) (fun _ _ => false) (fun _ _ => false) 5000 0 sk_135 = true := by decide +kernel
set_option maxRecDepth 100000 in
theorem hn0_0 : mr_300_44b (z_no [4294967295]) (mo3 98 0 0 rm0_0 rl0_0) 98 0 (fun _ _ => false) (tR 4294967295 1 rm0_1) 0 0 4294967295 0 rm0_0 = true := by decide +kernel
set_option maxRecDepth 100000 in
theorem hn0_1 : mr_300_44b (z_no [4294967295, 130, 16806]) (mo3 98 0 1 rm0_1 rl0_1) 98 0 (fun _ _ => false) (tR 4294967295 2 rm0_2) 0 0 4294967295 1 rm0_1 = true := by decide +kernel
set_option maxRecDepth 100000 in
theorem hf0_130 : mr_300_44b (z_is 130) (mo3 98 0 1 rm0_1 rl0_1) 98 0 (fun _ _ => false) (tR 1 2 rf0_1_130) 0 0 4294967295 1 rm0_1 = true := by decide +kernel
set_option maxRecDepth 100000 in
theorem hz0_130 : mr_300_44b (z_no []) m_239 98 0 (kE 1) (fun _ _ _ _ _ => false) 0 0 1 2 rf0_1_130 = true := by decide +kernel
set_option maxRecDepth 100000 in
theorem hf0_16806 : mr_300_44b (z_is 16806) (mo3 98 0 1 rm0_1 rl0_1) 98 0 (fun _ _ => false) (tR 1 2 rf0_1_16806) 0 0 4294967295 1 rm0_1 = true := by decide +kernel
set_option maxRecDepth 100000 in
theorem hz0_16806 : mr_300_44b (z_no []) m_239 98 0 (kE 1) (fun _ _ _ _ _ => false) 0 0 1 2 rf0_1_16806 = true := by decide +kernel
set_option maxRecDepth 100000 in
theorem hn0_2 : mr_300_44b (z_no [4294967295, 174, 3981, 14005]) (mo3 98 0 2 rm0_2 rl0_2) 98 0 (fun _ _ => false) (tR 4294967295 3 rm0_3) 0 0 4294967295 2 rm0_2 = true := by decide +kernel
set_option maxRecDepth 100000 in
theorem hf0_174 : mr_300_44b (z_is 174) (mo3 98 0 2 rm0_2 rl0_2) 98 0 (fun _ _ => false) (tR 2 3 rf0_2_174) 0 0 4294967295 2 rm0_2 = true := by decide +kernel
set_option maxRecDepth 100000 in
theorem hz0_174 : mr_300_44b (z_no []) m_239 98 0 (kE 2) (fun _ _ _ _ _ => false) 0 0 2 3 rf0_2_174 = true := by decide +kernel
set_option maxRecDepth 100000 in
theorem hf0_3981 : mr_300_44b (z_is 3981) (mo3 98 0 2 rm0_2 rl0_2) 98 0 (fun _ _ => false) (tR 2 3 rf0_2_3981) 0 0 4294967295 2 rm0_2 = true := by decide +kernel
set_option maxRecDepth 100000 in
theorem hz0_3981 : mr_300_44b (z_no []) m_239 98 0 (kE 2) (fun _ _ _ _ _ => false) 0 0 2 3 rf0_2_3981 = true := by decide +kernel
