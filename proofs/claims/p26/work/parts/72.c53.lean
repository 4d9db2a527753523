/-! ===== contracts, checked ===== -/
/-- yX8_kindsOf -/
def kc_250 : Con := (202, [(2, none, 213, 0, 1), (0, (some (0, 6)), 0, 0, 0)], [], [], [], [(213, 9, 14), (214, 2, 8), (216, 0, 7), (217, 0, 63), (218, 0, 31), (219, 0, 31), (220, 0, 62), (221, 0, 62)], [((some (0, (some (0, 127)))), [], [], [])])
def kt_250 : List (Nat × Nat × LpT) := [(202, 14, ([(3, 0, (some (0, 127))), (4, 0, (some (0, 6)))], [], [], [], [], [], ([((0, 4), (-1))], 7), []))]
set_option maxRecDepth 1000000 in
theorem kk_250 : chkC [kc_11, kc_98] (mkT kt_250) 3000 kc_250 = true := by decide +kernel
theorem ko_250 {z : Int → Int} (hz : zOK z) : conOK z kc_250 := chk_ok hz (K := [kc_11, kc_98]) (List.forall_mem_cons.mpr ⟨ko_11 hz, List.forall_mem_cons.mpr ⟨ko_98 hz, fun _ h => absurd h List.not_mem_nil⟩⟩) kk_250
/-- yX8_tells -/
def kc_251 : Con := (201, [(2, none, 213, 0, 1), (0, (some ((-2147483648), 2147483647)), 0, 0, 0), (0, (some ((-2147483648), 2147483647)), 0, 0, 0)], [], [], [], [(213, 9, 14), (213, 29, 30), (214, 2, 8), (216, 0, 7), (217, 0, 63), (218, 0, 31), (219, 0, 31), (220, 0, 62), (221, 0, 62)], [((some (0, none)), [], [], [])])
def kt_251 : List (Nat × Nat × LpT) := []
set_option maxRecDepth 1000000 in
theorem kk_251 : chkC [kc_249, kc_11, kc_250] (mkT kt_251) 3000 kc_251 = true := by decide +kernel
theorem ko_251 {z : Int → Int} (hz : zOK z) : conOK z kc_251 := chk_ok hz (K := [kc_249, kc_11, kc_250]) (List.forall_mem_cons.mpr ⟨ko_249 hz, List.forall_mem_cons.mpr ⟨ko_11 hz, List.forall_mem_cons.mpr ⟨ko_250 hz, fun _ h => absurd h List.not_mem_nil⟩⟩⟩) kk_251
