/-! ===== contracts, checked ===== -/
/-- yX6_readClause -/
def kc_235 : Con := (62, [(2, none, 187, 0, 1)], [(47876, (some (0, 12)))], [], [], [(187, 5, 8), (189, 0, 12), (191, 0, 4), (192, 0, 4), (193, 0, 4), (194, 0, 4), (195, 0, 4), (196, 0, 4), (197, 0, 4), (198, 0, 4), (199, 0, 4), (200, 0, 4), (201, 0, 4), (202, 0, 4), (203, 0, 4)], [((some (0, (some (0, 1)))), [], [], [])])
def kt_235 : List (Nat × Nat × LpT) := [(62, 46, ([(2, 0, (some (0, 5)))], [], [47877, 47879], [], [], [], ([((0, 2), (-1))], 6), []))]
set_option maxRecDepth 1000000 in
theorem kk_235 : chkC [kc_234] (mkT kt_235) 3000 kc_235 = true := by decide +kernel
theorem ko_235 {z : Int → Int} (hz : zOK z) : conOK z kc_235 := chk_ok hz (K := [kc_234]) (List.forall_mem_cons.mpr ⟨ko_234 hz, fun _ h => absurd h List.not_mem_nil⟩) kk_235
