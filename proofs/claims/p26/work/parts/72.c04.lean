/-! ===== contracts, checked ===== -/
/-- yX4_add -/
def kc_52 : Con := (51, [(2, none, 153, 0, 1), (2, none, 11, 1, 7), (2, none, 11, 1, 7)], [], [], [], [(153, 4, 4), (154, 0, 27), (155, 0, 27)], [(none, [], [], [])])
def kt_52 : List (Nat × Nat × LpT) := []
set_option maxRecDepth 1000000 in
theorem kk_52 : chkC [kc_2, kc_4, kc_3, kc_1] (mkT kt_52) 3000 kc_52 = true := by decide +kernel
theorem ko_52 {z : Int → Int} (hz : zOK z) : conOK z kc_52 := chk_ok hz (K := [kc_2, kc_4, kc_3, kc_1]) (List.forall_mem_cons.mpr ⟨ko_2 hz, List.forall_mem_cons.mpr ⟨ko_4 hz, List.forall_mem_cons.mpr ⟨ko_3 hz, List.forall_mem_cons.mpr ⟨ko_1 hz, fun _ h => absurd h List.not_mem_nil⟩⟩⟩⟩) kk_52
/-- yX4_nextRound -/
def kc_53 : Con := (53, [(2, none, 153, 0, 1), (0, (some (0, 27)), 0, 0, 0)], [], [], [], [], [((some (0, (some (0, 27)))), [], [], [])])
def kt_53 : List (Nat × Nat × LpT) := [(53, 4, ([(2, 0, (some (0, 27))), (3, 0, (some (0, 28)))], [], [], [], [], [], ([((0, 3), (-1))], 29), []))]
set_option maxRecDepth 1000000 in
theorem kk_53 : chkC [] (mkT kt_53) 3000 kc_53 = true := by decide +kernel
theorem ko_53 {z : Int → Int} (hz : zOK z) : conOK z kc_53 := chk_ok hz (K := []) (fun _ h => absurd h List.not_mem_nil) kk_53
/-- yX4_wrap -/
def kc_54 : Con := (52, [(2, none, 153, 0, 1)], [], [], [], [(153, 5, 5), (156, 0, 27), (157, 0, 27)], [(none, [], [], [])])
def kt_54 : List (Nat × Nat × LpT) := [(52, 12, ([(1, 0, (some (0, 27))), (2, 0, (some (1, 28)))], [], [], [], [], [], ([((0, 2), (-1))], 29), [])), (52, 85, ([(2, 0, (some (0, 27)))], [], [], [(39173, (some (0, 28)))], [], [], ([((1, 39172), 1), ((1, 39173), (-1))], 0), [39173, 39172]))]
set_option maxRecDepth 1000000 in
theorem kk_54 : chkC [kc_53] (mkT kt_54) 3000 kc_54 = true := by decide +kernel
theorem ko_54 {z : Int → Int} (hz : zOK z) : conOK z kc_54 := chk_ok hz (K := [kc_53]) (List.forall_mem_cons.mpr ⟨ko_53 hz, fun _ h => absurd h List.not_mem_nil⟩) kk_54
/-- yX4_add -/
def kc_55 : Con := (51, [(2, none, 158, 0, 1), (2, none, 11, 1, 7), (2, none, 11, 1, 7)], [], [], [], [(158, 4, 4), (159, 0, 27), (160, 0, 27)], [(none, [], [], [])])
def kt_55 : List (Nat × Nat × LpT) := []
set_option maxRecDepth 1000000 in
theorem kk_55 : chkC [kc_2, kc_4, kc_3, kc_1] (mkT kt_55) 3000 kc_55 = true := by decide +kernel
theorem ko_55 {z : Int → Int} (hz : zOK z) : conOK z kc_55 := chk_ok hz (K := [kc_2, kc_4, kc_3, kc_1]) (List.forall_mem_cons.mpr ⟨ko_2 hz, List.forall_mem_cons.mpr ⟨ko_4 hz, List.forall_mem_cons.mpr ⟨ko_3 hz, List.forall_mem_cons.mpr ⟨ko_1 hz, fun _ h => absurd h List.not_mem_nil⟩⟩⟩⟩) kk_55
/-- yX4_nextRound -/
def kc_56 : Con := (53, [(2, none, 158, 0, 1), (0, (some (0, 27)), 0, 0, 0)], [], [], [], [], [((some (0, (some (0, 27)))), [], [], [])])
def kt_56 : List (Nat × Nat × LpT) := [(53, 4, ([(2, 0, (some (0, 27))), (3, 0, (some (0, 28)))], [], [], [], [], [], ([((0, 3), (-1))], 29), []))]
set_option maxRecDepth 1000000 in
theorem kk_56 : chkC [] (mkT kt_56) 3000 kc_56 = true := by decide +kernel
theorem ko_56 {z : Int → Int} (hz : zOK z) : conOK z kc_56 := chk_ok hz (K := []) (fun _ h => absurd h List.not_mem_nil) kk_56
/-- yX4_wrap -/
def kc_57 : Con := (52, [(2, none, 158, 0, 1)], [], [], [], [(158, 5, 5), (161, 0, 27), (162, 0, 27)], [(none, [], [], [])])
def kt_57 : List (Nat × Nat × LpT) := [(52, 12, ([(1, 0, (some (0, 27))), (2, 0, (some (1, 28)))], [], [], [], [], [], ([((0, 2), (-1))], 29), [])), (52, 85, ([(2, 0, (some (0, 27)))], [], [], [(40453, (some (0, 28)))], [], [], ([((1, 40452), 1), ((1, 40453), (-1))], 0), [40453, 40452]))]
set_option maxRecDepth 1000000 in
theorem kk_57 : chkC [kc_56] (mkT kt_57) 3000 kc_57 = true := by decide +kernel
theorem ko_57 {z : Int → Int} (hz : zOK z) : conOK z kc_57 := chk_ok hz (K := [kc_56]) (List.forall_mem_cons.mpr ⟨ko_56 hz, fun _ h => absurd h List.not_mem_nil⟩) kk_57
/-- yX4_add -/
def kc_58 : Con := (51, [(2, none, 163, 0, 1), (2, none, 11, 1, 7), (2, none, 11, 1, 7)], [], [], [], [(163, 4, 4), (164, 0, 27), (165, 0, 27)], [(none, [], [], [])])
def kt_58 : List (Nat × Nat × LpT) := []
set_option maxRecDepth 1000000 in
theorem kk_58 : chkC [kc_2, kc_4, kc_3, kc_1] (mkT kt_58) 3000 kc_58 = true := by decide +kernel
theorem ko_58 {z : Int → Int} (hz : zOK z) : conOK z kc_58 := chk_ok hz (K := [kc_2, kc_4, kc_3, kc_1]) (List.forall_mem_cons.mpr ⟨ko_2 hz, List.forall_mem_cons.mpr ⟨ko_4 hz, List.forall_mem_cons.mpr ⟨ko_3 hz, List.forall_mem_cons.mpr ⟨ko_1 hz, fun _ h => absurd h List.not_mem_nil⟩⟩⟩⟩) kk_58
/-- yX4_nextRound -/
def kc_59 : Con := (53, [(2, none, 163, 0, 1), (0, (some (0, 27)), 0, 0, 0)], [], [], [], [], [((some (0, (some (0, 27)))), [], [], [])])
def kt_59 : List (Nat × Nat × LpT) := [(53, 4, ([(2, 0, (some (0, 27))), (3, 0, (some (0, 28)))], [], [], [], [], [], ([((0, 3), (-1))], 29), []))]
set_option maxRecDepth 1000000 in
theorem kk_59 : chkC [] (mkT kt_59) 3000 kc_59 = true := by decide +kernel
theorem ko_59 {z : Int → Int} (hz : zOK z) : conOK z kc_59 := chk_ok hz (K := []) (fun _ h => absurd h List.not_mem_nil) kk_59
/-- yX4_wrap -/
def kc_60 : Con := (52, [(2, none, 163, 0, 1)], [], [], [], [(163, 5, 5), (166, 0, 27), (167, 0, 27)], [(none, [], [], [])])
def kt_60 : List (Nat × Nat × LpT) := [(52, 12, ([(1, 0, (some (0, 27))), (2, 0, (some (1, 28)))], [], [], [], [], [], ([((0, 2), (-1))], 29), [])), (52, 85, ([(2, 0, (some (0, 27)))], [], [], [(41733, (some (0, 28)))], [], [], ([((1, 41732), 1), ((1, 41733), (-1))], 0), [41733, 41732]))]
set_option maxRecDepth 1000000 in
theorem kk_60 : chkC [kc_59] (mkT kt_60) 3000 kc_60 = true := by decide +kernel
theorem ko_60 {z : Int → Int} (hz : zOK z) : conOK z kc_60 := chk_ok hz (K := [kc_59]) (List.forall_mem_cons.mpr ⟨ko_59 hz, fun _ h => absurd h List.not_mem_nil⟩) kk_60
/-- yX4_add -/
def kc_61 : Con := (51, [(2, none, 168, 0, 1), (2, none, 11, 1, 7), (2, none, 11, 1, 7)], [], [], [], [(168, 4, 4), (169, 0, 27), (170, 0, 27)], [(none, [], [], [])])
def kt_61 : List (Nat × Nat × LpT) := []
set_option maxRecDepth 1000000 in
theorem kk_61 : chkC [kc_2, kc_4, kc_3, kc_1] (mkT kt_61) 3000 kc_61 = true := by decide +kernel
theorem ko_61 {z : Int → Int} (hz : zOK z) : conOK z kc_61 := chk_ok hz (K := [kc_2, kc_4, kc_3, kc_1]) (List.forall_mem_cons.mpr ⟨ko_2 hz, List.forall_mem_cons.mpr ⟨ko_4 hz, List.forall_mem_cons.mpr ⟨ko_3 hz, List.forall_mem_cons.mpr ⟨ko_1 hz, fun _ h => absurd h List.not_mem_nil⟩⟩⟩⟩) kk_61
/-- yX4_nextRound -/
def kc_62 : Con := (53, [(2, none, 168, 0, 1), (0, (some (0, 27)), 0, 0, 0)], [], [], [], [], [((some (0, (some (0, 27)))), [], [], [])])
def kt_62 : List (Nat × Nat × LpT) := [(53, 4, ([(2, 0, (some (0, 27))), (3, 0, (some (0, 28)))], [], [], [], [], [], ([((0, 3), (-1))], 29), []))]
set_option maxRecDepth 1000000 in
theorem kk_62 : chkC [] (mkT kt_62) 3000 kc_62 = true := by decide +kernel
theorem ko_62 {z : Int → Int} (hz : zOK z) : conOK z kc_62 := chk_ok hz (K := []) (fun _ h => absurd h List.not_mem_nil) kk_62
/-- yX4_wrap -/
def kc_63 : Con := (52, [(2, none, 168, 0, 1)], [], [], [], [(168, 5, 5), (171, 0, 27), (172, 0, 27)], [(none, [], [], [])])
def kt_63 : List (Nat × Nat × LpT) := [(52, 12, ([(1, 0, (some (0, 27))), (2, 0, (some (1, 28)))], [], [], [], [], [], ([((0, 2), (-1))], 29), [])), (52, 85, ([(2, 0, (some (0, 27)))], [], [], [(43013, (some (0, 28)))], [], [], ([((1, 43012), 1), ((1, 43013), (-1))], 0), [43013, 43012]))]
set_option maxRecDepth 1000000 in
theorem kk_63 : chkC [kc_62] (mkT kt_63) 3000 kc_63 = true := by decide +kernel
theorem ko_63 {z : Int → Int} (hz : zOK z) : conOK z kc_63 := chk_ok hz (K := [kc_62]) (List.forall_mem_cons.mpr ⟨ko_62 hz, fun _ h => absurd h List.not_mem_nil⟩) kk_63
/-- yX4_add -/
def kc_64 : Con := (51, [(2, none, 173, 0, 1), (2, none, 11, 1, 7), (2, none, 11, 1, 7)], [], [], [], [(173, 4, 4), (174, 0, 27), (175, 0, 27)], [(none, [], [], [])])
def kt_64 : List (Nat × Nat × LpT) := []
set_option maxRecDepth 1000000 in
theorem kk_64 : chkC [kc_2, kc_4, kc_3, kc_1] (mkT kt_64) 3000 kc_64 = true := by decide +kernel
theorem ko_64 {z : Int → Int} (hz : zOK z) : conOK z kc_64 := chk_ok hz (K := [kc_2, kc_4, kc_3, kc_1]) (List.forall_mem_cons.mpr ⟨ko_2 hz, List.forall_mem_cons.mpr ⟨ko_4 hz, List.forall_mem_cons.mpr ⟨ko_3 hz, List.forall_mem_cons.mpr ⟨ko_1 hz, fun _ h => absurd h List.not_mem_nil⟩⟩⟩⟩) kk_64
/-- yX4_nextRound -/
def kc_65 : Con := (53, [(2, none, 173, 0, 1), (0, (some (0, 27)), 0, 0, 0)], [], [], [], [], [((some (0, (some (0, 27)))), [], [], [])])
def kt_65 : List (Nat × Nat × LpT) := [(53, 4, ([(2, 0, (some (0, 27))), (3, 0, (some (0, 28)))], [], [], [], [], [], ([((0, 3), (-1))], 29), []))]
set_option maxRecDepth 1000000 in
theorem kk_65 : chkC [] (mkT kt_65) 3000 kc_65 = true := by decide +kernel
theorem ko_65 {z : Int → Int} (hz : zOK z) : conOK z kc_65 := chk_ok hz (K := []) (fun _ h => absurd h List.not_mem_nil) kk_65
/-- yX4_wrap -/
def kc_66 : Con := (52, [(2, none, 173, 0, 1)], [], [], [], [(173, 5, 5), (176, 0, 27), (177, 0, 27)], [(none, [], [], [])])
def kt_66 : List (Nat × Nat × LpT) := [(52, 12, ([(1, 0, (some (0, 27))), (2, 0, (some (1, 28)))], [], [], [], [], [], ([((0, 2), (-1))], 29), [])), (52, 85, ([(2, 0, (some (0, 27)))], [], [], [(44293, (some (0, 28)))], [], [], ([((1, 44292), 1), ((1, 44293), (-1))], 0), [44293, 44292]))]
set_option maxRecDepth 1000000 in
theorem kk_66 : chkC [kc_65] (mkT kt_66) 3000 kc_66 = true := by decide +kernel
theorem ko_66 {z : Int → Int} (hz : zOK z) : conOK z kc_66 := chk_ok hz (K := [kc_65]) (List.forall_mem_cons.mpr ⟨ko_65 hz, fun _ h => absurd h List.not_mem_nil⟩) kk_66
/-- yX4_add -/
def kc_67 : Con := (51, [(2, none, 178, 0, 1), (2, none, 11, 1, 7), (2, none, 11, 1, 7)], [], [], [], [(178, 4, 4), (179, 0, 27), (180, 0, 27)], [(none, [], [], [])])
def kt_67 : List (Nat × Nat × LpT) := []
set_option maxRecDepth 1000000 in
theorem kk_67 : chkC [kc_2, kc_4, kc_3, kc_1] (mkT kt_67) 3000 kc_67 = true := by decide +kernel
theorem ko_67 {z : Int → Int} (hz : zOK z) : conOK z kc_67 := chk_ok hz (K := [kc_2, kc_4, kc_3, kc_1]) (List.forall_mem_cons.mpr ⟨ko_2 hz, List.forall_mem_cons.mpr ⟨ko_4 hz, List.forall_mem_cons.mpr ⟨ko_3 hz, List.forall_mem_cons.mpr ⟨ko_1 hz, fun _ h => absurd h List.not_mem_nil⟩⟩⟩⟩) kk_67
/-- yX4_nextRound -/
def kc_68 : Con := (53, [(2, none, 178, 0, 1), (0, (some (0, 27)), 0, 0, 0)], [], [], [], [], [((some (0, (some (0, 27)))), [], [], [])])
def kt_68 : List (Nat × Nat × LpT) := [(53, 4, ([(2, 0, (some (0, 27))), (3, 0, (some (0, 28)))], [], [], [], [], [], ([((0, 3), (-1))], 29), []))]
set_option maxRecDepth 1000000 in
theorem kk_68 : chkC [] (mkT kt_68) 3000 kc_68 = true := by decide +kernel
theorem ko_68 {z : Int → Int} (hz : zOK z) : conOK z kc_68 := chk_ok hz (K := []) (fun _ h => absurd h List.not_mem_nil) kk_68
/-- yX4_wrap -/
def kc_69 : Con := (52, [(2, none, 178, 0, 1)], [], [], [], [(178, 5, 5), (181, 0, 27), (182, 0, 27)], [(none, [], [], [])])
def kt_69 : List (Nat × Nat × LpT) := [(52, 12, ([(1, 0, (some (0, 27))), (2, 0, (some (1, 28)))], [], [], [], [], [], ([((0, 2), (-1))], 29), [])), (52, 85, ([(2, 0, (some (0, 27)))], [], [], [(45573, (some (0, 28)))], [], [], ([((1, 45572), 1), ((1, 45573), (-1))], 0), [45573, 45572]))]
set_option maxRecDepth 1000000 in
theorem kk_69 : chkC [kc_68] (mkT kt_69) 3000 kc_69 = true := by decide +kernel
theorem ko_69 {z : Int → Int} (hz : zOK z) : conOK z kc_69 := chk_ok hz (K := [kc_68]) (List.forall_mem_cons.mpr ⟨ko_68 hz, fun _ h => absurd h List.not_mem_nil⟩) kk_69
