/-! ===== a place of the class's spot ===== -/
set_option maxRecDepth 1000000 in
theorem r104_1 : allR (rOn TLs 104 pT_104 (Cs (1, 1)) a104 F104 40000) (fitO F104) = true := by decide +kernel
