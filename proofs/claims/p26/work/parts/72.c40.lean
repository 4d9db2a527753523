/-! ===== contracts, checked ===== -/
/-- yX7_firstFailingBump -/
def kc_209 : Con := (106, [(2, none, 0, 0, 1), (0, (some ((-2147483648), 2147483647)), 0, 0, 0), (0, (some ((-2147483648), 2147483647)), 0, 0, 0)], [(13317, (some (1, 1)))], [], [], [], [((some (0, (some ((-1), 2147483647)))), [], [], [])])
def kt_209 : List (Nat × Nat × LpT) := [(106, 5, ([(3, 0, none), (4, 0, (some (0, 2147483647)))], [], [], [], [], [], ([((0, 4), (-1))], 2147483648), []))]
set_option maxRecDepth 1000000 in
theorem kk_209 : chkC [kc_154] (mkT kt_209) 3000 kc_209 = true := by decide +kernel
theorem ko_209 {z : Int → Int} (hz : zOK z) : conOK z kc_209 := chk_ok hz (K := [kc_154]) (List.forall_mem_cons.mpr ⟨ko_154 hz, fun _ h => absurd h List.not_mem_nil⟩) kk_209
