/-! LAYS: a piece of a long one, checked -/
set_option maxRecDepth 100000 in
theorem hy77_04 : mg_239_77r m_234 98 0 4 (fun _ => false) (fun _ => false) (mg_239_135r m_234 98 0 4 (fun _ => false) (fun _ => false) (fun _ _ => false) (xH 0 sh0_4) (fun _ _ => false) 5000) (fun _ _ => false) (fun _ _ => false) 5000 0 sa0_4 = true := by decide +kernel
set_option maxRecDepth 100000 in
theorem hyK_04 : x_K 2 pk0_4 0 sh0_4 = true := by decide +kernel
