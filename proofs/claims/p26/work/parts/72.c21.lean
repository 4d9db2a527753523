/-! ===== contracts, checked ===== -/
/-- yX8_isFree -/
def kc_99 : Con := (146, [(2, none, 213, 0, 1), (0, (some (0, 6)), 0, 0, 0), (0, (some ((-2147483648), 2147483647)), 0, 0, 0)], [], [], [], [(213, 9, 14), (216, 0, 7), (217, 0, 63), (218, 0, 31), (219, 0, 31), (220, 0, 62), (221, 0, 62)], [((some (0, (some (0, 1)))), [], [], [])])
def kt_99 : List (Nat × Nat × LpT) := []
set_option maxRecDepth 1000000 in
theorem kk_99 : chkC [kc_80, kc_82, kc_98] (mkT kt_99) 3000 kc_99 = true := by decide +kernel
theorem ko_99 {z : Int → Int} (hz : zOK z) : conOK z kc_99 := chk_ok hz (K := [kc_80, kc_82, kc_98]) (List.forall_mem_cons.mpr ⟨ko_80 hz, List.forall_mem_cons.mpr ⟨ko_82 hz, List.forall_mem_cons.mpr ⟨ko_98 hz, fun _ h => absurd h List.not_mem_nil⟩⟩⟩) kk_99
