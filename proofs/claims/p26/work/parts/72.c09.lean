/-! ===== contracts, checked ===== -/
/-- yX0_why -/
def kc_74 : Con := (7, [(2, none, 118, 0, 1), (0, (some (0, 6)), 0, 0, 0), (0, (some ((-2147483648), 2147483647)), 0, 0, 0), (0, (some ((-2147483648), 2147483647)), 0, 0, 0)], [(30213, (some (1, 1)))], [], [], [], [((some (0, (some (0, 4)))), [], [], [])])
def kt_74 : List (Nat × Nat × LpT) := []
set_option maxRecDepth 1000000 in
theorem kk_74 : chkC [kc_19, kc_73, kc_20] (mkT kt_74) 3000 kc_74 = true := by decide +kernel
theorem ko_74 {z : Int → Int} (hz : zOK z) : conOK z kc_74 := chk_ok hz (K := [kc_19, kc_73, kc_20]) (List.forall_mem_cons.mpr ⟨ko_19 hz, List.forall_mem_cons.mpr ⟨ko_73 hz, List.forall_mem_cons.mpr ⟨ko_20 hz, fun _ h => absurd h List.not_mem_nil⟩⟩⟩) kk_74
