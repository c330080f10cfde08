/-! LAYS: a piece of a long one, checked -/
set_option maxRecDepth 100000 in
theorem hye_05 : mg_239 m_234 (mg_239_10r m_234 98 0 5 (fun _ => false) (fun _ _ => false) (fun _ _ => false) (fun _ _ => false) (fun M => x_eq M sk_4) 4) (fun _ _ => false) (fun _ _ => false) (fun _ _ => false) 98 0 5 mx0 (fun _ => false) = true := by decide +kernel
