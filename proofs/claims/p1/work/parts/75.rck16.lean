/-! THE REFERENCE: its runs, checked -/
set_option maxRecDepth 100000 in
theorem hn0_5 : mr_300_44b (z_no [4294967295, 130, 174, 1371, 3981, 14005, 16806, 21208, 146893]) (mo3 98 0 5 rm0_5 rl0_5) 98 0 (fun _ _ => false) (tR 4294967295 6 rm0_6) 0 0 4294967295 5 rm0_5 = true := by decide +kernel
