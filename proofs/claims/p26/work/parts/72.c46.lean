/-! ===== contracts, checked ===== -/
/-- yX6_read -/
def kc_236 : Con := (61, [(2, none, 187, 0, 1)], [], [], [], [(187, 4, 8), (189, 0, 12), (191, 0, 4), (192, 0, 4), (193, 0, 4), (194, 0, 4), (195, 0, 4), (196, 0, 4), (197, 0, 4), (198, 0, 4), (199, 0, 4), (200, 0, 4), (201, 0, 4), (202, 0, 4), (203, 0, 4)], [((some (0, (some ((-1), 60)))), [], [], [])])
def kt_236 : List (Nat × Nat × LpT) := [(61, 10, ([], [], [47880], [(47876, (some (0, 13)))], [], [], ([((1, 47876), (-1))], 14), [47876]))]
set_option maxRecDepth 1000000 in
theorem kk_236 : chkC [kc_235, kc_234] (mkT kt_236) 3000 kc_236 = true := by decide +kernel
theorem ko_236 {z : Int → Int} (hz : zOK z) : conOK z kc_236 := chk_ok hz (K := [kc_235, kc_234]) (List.forall_mem_cons.mpr ⟨ko_235 hz, List.forall_mem_cons.mpr ⟨ko_234 hz, fun _ h => absurd h List.not_mem_nil⟩⟩) kk_236
