/-! ===== contracts, checked ===== -/
/-- yX8_off -/
def kc_101 : Con := (145, [(2, none, 213, 0, 1), (0, (some ((-2147483648), 2147483647)), 0, 0, 0)], [], [], [], [(213, 9, 14), (214, 1, 1), (216, 0, 7), (217, 0, 63), (218, 0, 31), (219, 0, 31), (220, 0, 62), (221, 0, 62)], [((some (0, (some ((-100), 7)))), [], [], [])])
def kt_101 : List (Nat × Nat × LpT) := []
set_option maxRecDepth 1000000 in
theorem kk_101 : chkC [kc_11, kc_99, kc_100] (mkT kt_101) 3000 kc_101 = true := by decide +kernel
theorem ko_101 {z : Int → Int} (hz : zOK z) : conOK z kc_101 := chk_ok hz (K := [kc_11, kc_99, kc_100]) (List.forall_mem_cons.mpr ⟨ko_11 hz, List.forall_mem_cons.mpr ⟨ko_99 hz, List.forall_mem_cons.mpr ⟨ko_100 hz, fun _ h => absurd h List.not_mem_nil⟩⟩⟩) kk_101
