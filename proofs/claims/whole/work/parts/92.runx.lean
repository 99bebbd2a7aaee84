theorem run_M : gexec 1500 8 0 [.ref 0, .null, .null] [] [.inl (8, dF 8)] 0 0 = some GM := isG_e run_M0
set_option maxRecDepth 1000000 in
theorem run_X0 : isG (gexec 1500 7 0 [.ref 0, .null] [] [.inl (7, dF 7)] 0 0) GX = true := by decide +kernel
theorem run_X : gexec 1500 7 0 [.ref 0, .null] [] [.inl (7, dF 7)] 0 0 = some GX := isG_e run_X0
