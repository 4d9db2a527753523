/-! ===== a place of the class's spot ===== -/
set_option maxRecDepth 1000000 in
theorem r104_3 : allR (rOn TLs 104 pT_104 (Cs (999, 999)) a104 F104 40000) (fitO F104) = true := by decide +kernel
