/-! ===== contracts, checked ===== -/
/-- yX0_failing -/
def kc_75 : Con := (6, [(2, none, 118, 0, 1), (0, (some ((-2147483648), 2147483647)), 0, 0, 0), (0, (some ((-2147483648), 2147483647)), 0, 0, 0)], [(30213, (some (1, 1)))], [], [], [], [((some (0, (some (0, 127)))), [], [], [])])
def kt_75 : List (Nat × Nat × LpT) := [(6, 5, ([(3, 0, (some (0, 127))), (4, 0, (some (0, 7)))], [], [], [], [], [], ([((0, 4), (-1))], 8), []))]
set_option maxRecDepth 1000000 in
theorem kk_75 : chkC [kc_43, kc_74] (mkT kt_75) 3000 kc_75 = true := by decide +kernel
theorem ko_75 {z : Int → Int} (hz : zOK z) : conOK z kc_75 := chk_ok hz (K := [kc_43, kc_74]) (List.forall_mem_cons.mpr ⟨ko_43 hz, List.forall_mem_cons.mpr ⟨ko_74 hz, fun _ h => absurd h List.not_mem_nil⟩⟩) kk_75
