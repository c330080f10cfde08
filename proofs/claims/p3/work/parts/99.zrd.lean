/-! LAYS: a piece of a long one, checked -/
set_option maxRecDepth 100000 in
theorem hy77_35 : mg_239_77r m_234 98 3 5 (fun _ => false) (fun _ => false) (mg_239_135r m_234 98 3 5 (fun _ => false) (fun _ => false) (fun _ _ => false) (xH 0 sh3_5) (fun _ _ => false) 5000) (fun _ _ => false) (fun _ _ => false) 5000 0 sa3_5 = true := by decide +kernel
set_option maxRecDepth 100000 in
theorem hyK_35 : x_K 1 pk3_5 0 sh3_5 = true := by decide +kernel
