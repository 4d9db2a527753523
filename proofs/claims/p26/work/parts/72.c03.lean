/-! ===== contracts, checked ===== -/
/-- yX1_isOnFloor -/
def kc_48 : Con := (28, [(2, none, 11, 1, 7)], [], [], [], [], [((some (0, (some (0, 1)))), [], [], [])])
def kt_48 : List (Nat × Nat × LpT) := []
set_option maxRecDepth 1000000 in
theorem kk_48 : chkC [] (mkT kt_48) 3000 kc_48 = true := by decide +kernel
theorem ko_48 {z : Int → Int} (hz : zOK z) : conOK z kc_48 := chk_ok hz (K := []) (fun _ h => absurd h List.not_mem_nil) kk_48
/-- yX4_add -/
def kc_49 : Con := (51, [(2, none, 148, 0, 1), (2, none, 11, 1, 7), (2, none, 11, 1, 7)], [], [], [], [(148, 4, 4), (149, 0, 27), (150, 0, 27)], [(none, [], [], [])])
def kt_49 : List (Nat × Nat × LpT) := []
set_option maxRecDepth 1000000 in
theorem kk_49 : chkC [kc_2, kc_4, kc_3, kc_1] (mkT kt_49) 3000 kc_49 = true := by decide +kernel
theorem ko_49 {z : Int → Int} (hz : zOK z) : conOK z kc_49 := chk_ok hz (K := [kc_2, kc_4, kc_3, kc_1]) (List.forall_mem_cons.mpr ⟨ko_2 hz, List.forall_mem_cons.mpr ⟨ko_4 hz, List.forall_mem_cons.mpr ⟨ko_3 hz, List.forall_mem_cons.mpr ⟨ko_1 hz, fun _ h => absurd h List.not_mem_nil⟩⟩⟩⟩) kk_49
/-- yX4_nextRound -/
def kc_50 : Con := (53, [(2, none, 148, 0, 1), (0, (some (0, 27)), 0, 0, 0)], [], [], [], [], [((some (0, (some (0, 27)))), [], [], [])])
def kt_50 : List (Nat × Nat × LpT) := [(53, 4, ([(2, 0, (some (0, 27))), (3, 0, (some (0, 28)))], [], [], [], [], [], ([((0, 3), (-1))], 29), []))]
set_option maxRecDepth 1000000 in
theorem kk_50 : chkC [] (mkT kt_50) 3000 kc_50 = true := by decide +kernel
theorem ko_50 {z : Int → Int} (hz : zOK z) : conOK z kc_50 := chk_ok hz (K := []) (fun _ h => absurd h List.not_mem_nil) kk_50
/-- yX4_wrap -/
def kc_51 : Con := (52, [(2, none, 148, 0, 1)], [], [], [], [(148, 5, 5), (151, 0, 27), (152, 0, 27)], [(none, [], [], [])])
def kt_51 : List (Nat × Nat × LpT) := [(52, 12, ([(1, 0, (some (0, 27))), (2, 0, (some (1, 28)))], [], [], [], [], [], ([((0, 2), (-1))], 29), [])), (52, 85, ([(2, 0, (some (0, 27)))], [], [], [(37893, (some (0, 28)))], [], [], ([((1, 37892), 1), ((1, 37893), (-1))], 0), [37893, 37892]))]
set_option maxRecDepth 1000000 in
theorem kk_51 : chkC [kc_50] (mkT kt_51) 3000 kc_51 = true := by decide +kernel
theorem ko_51 {z : Int → Int} (hz : zOK z) : conOK z kc_51 := chk_ok hz (K := [kc_50]) (List.forall_mem_cons.mpr ⟨ko_50 hz, fun _ h => absurd h List.not_mem_nil⟩) kk_51
