/-! LAYS: a piece of a long one, checked -/
set_option maxRecDepth 100000 in
theorem hye_04 : mg_239 m_234 (mg_239_10r m_234 98 0 4 (fun _ => false) (xH 0 sa0_4) (fun _ _ => false) (fun _ _ => false) (fun _ => false) 6) (fun _ _ => false) (fun _ _ => false) (fun _ _ => false) 98 0 4 mx0 (fun _ => false) = true := by decide +kernel
