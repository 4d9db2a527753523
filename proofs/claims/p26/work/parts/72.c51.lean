/-! ===== contracts, checked ===== -/
/-- yX8_text -/
def kc_243 : Con := (194, [(2, none, 213, 0, 1)], [], [], [], [(213, 9, 14), (213, 22, 25), (214, 0, 8), (214, 10, 16), (214, 18, 24), (214, 26, 32), (214, 34, 40), (214, 42, 48), (214, 50, 56), (214, 58, 64), (214, 66, 72), (216, 0, 7), (217, 0, 63), (218, 0, 31), (219, 0, 31), (220, 0, 62), (221, 0, 62), (225, 0, 4)], [((some (0, none)), [], [], [])])
def kt_243 : List (Nat × Nat × LpT) := []
set_option maxRecDepth 1000000 in
theorem kk_243 : chkC [kc_242] (mkT kt_243) 3000 kc_243 = true := by decide +kernel
theorem ko_243 {z : Int → Int} (hz : zOK z) : conOK z kc_243 := chk_ok hz (K := [kc_242]) (List.forall_mem_cons.mpr ⟨ko_242 hz, fun _ h => absurd h List.not_mem_nil⟩) kk_243
