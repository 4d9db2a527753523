/-! ===== contracts, checked ===== -/
/-- yX0_placed -/
def kc_73 : Con := (8, [(2, none, 118, 0, 1), (0, (some (0, 6)), 0, 0, 0), (0, (some ((-2147483648), 2147483647)), 0, 0, 0), (0, (some ((-2147483648), 2147483647)), 0, 0, 0)], [(30213, (some (1, 1)))], [], [], [], [((some (0, (some (0, 2)))), [], [], [])])
def kt_73 : List (Nat × Nat × LpT) := []
set_option maxRecDepth 1000000 in
theorem kk_73 : chkC [kc_45, kc_72] (mkT kt_73) 3000 kc_73 = true := by decide +kernel
theorem ko_73 {z : Int → Int} (hz : zOK z) : conOK z kc_73 := chk_ok hz (K := [kc_45, kc_72]) (List.forall_mem_cons.mpr ⟨ko_45 hz, List.forall_mem_cons.mpr ⟨ko_72 hz, fun _ h => absurd h List.not_mem_nil⟩⟩) kk_73
