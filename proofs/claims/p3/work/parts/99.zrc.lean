/-! LAYS: a piece of a long one, checked -/
set_option maxRecDepth 100000 in
theorem hye_35 : mg_239 m_234 (mg_239_10r m_234 98 3 5 (fun _ => false) (xH 0 sa3_5) (fun _ _ => false) (fun _ _ => false) (fun _ => false) 7) (fun _ _ => false) (fun _ _ => false) (fun _ _ => false) 98 3 5 mx0 (fun _ => false) = true := by decide +kernel
