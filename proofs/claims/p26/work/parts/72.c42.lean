/-! ===== contracts, checked ===== -/
/-- yX8_bumped -/
def kc_211 : Con := (191, [(2, none, 213, 0, 1), (0, (some ((-2147483648), 2147483647)), 0, 0, 0), (0, (some ((-2147483648), 2147483647)), 0, 0, 0)], [], [], [], [(213, 9, 14), (216, 0, 7), (217, 0, 63), (218, 0, 31), (219, 0, 31), (220, 0, 62), (221, 0, 62)], [((some (0, (some ((-1), 2147483647)))), [], [], [])])
def kt_211 : List (Nat × Nat × LpT) := [(191, 5, ([(3, 0, none), (4, 0, (some (0, 2147483647)))], [], [], [], [], [], ([((0, 4), (-1))], 2147483648), []))]
set_option maxRecDepth 1000000 in
theorem kk_211 : chkC [kc_11, kc_98] (mkT kt_211) 3000 kc_211 = true := by decide +kernel
theorem ko_211 {z : Int → Int} (hz : zOK z) : conOK z kc_211 := chk_ok hz (K := [kc_11, kc_98]) (List.forall_mem_cons.mpr ⟨ko_11 hz, List.forall_mem_cons.mpr ⟨ko_98 hz, fun _ h => absurd h List.not_mem_nil⟩⟩) kk_211
/-- yX8_bumps -/
def kc_212 : Con := (190, [(2, none, 213, 0, 1), (0, (some ((-2147483648), 2147483647)), 0, 0, 0), (0, (some ((-2147483648), 2147483647)), 0, 0, 0)], [], [], [], [(213, 9, 14), (216, 0, 7), (217, 0, 63), (218, 0, 31), (219, 0, 31), (220, 0, 62), (221, 0, 62)], [((some (0, (some ((-100), 2147483647)))), [], [], [])])
def kt_212 : List (Nat × Nat × LpT) := []
set_option maxRecDepth 1000000 in
theorem kk_212 : chkC [kc_211] (mkT kt_212) 3000 kc_212 = true := by decide +kernel
theorem ko_212 {z : Int → Int} (hz : zOK z) : conOK z kc_212 := chk_ok hz (K := [kc_211]) (List.forall_mem_cons.mpr ⟨ko_211 hz, fun _ h => absurd h List.not_mem_nil⟩) kk_212
