/-! ===== contracts, checked ===== -/
/-- yX3_below -/
def kc_102 : Con := (45, [(2, none, 1, 0, 1), (0, (some (0, 6)), 0, 0, 0), (0, (some ((-2147483648), 2147483647)), 0, 0, 0)], [], [], [], [], [((some (0, (some (0, 127)))), [], [], [])])
def kt_102 : List (Nat × Nat × LpT) := [(45, 5, ([(3, 0, (some (0, 127))), (4, 0, (some (0, 7)))], [], [], [], [], [], ([((0, 4), (-1))], 8), []))]
set_option maxRecDepth 1000000 in
theorem kk_102 : chkC [kc_0] (mkT kt_102) 3000 kc_102 = true := by decide +kernel
theorem ko_102 {z : Int → Int} (hz : zOK z) : conOK z kc_102 := chk_ok hz (K := [kc_0]) (List.forall_mem_cons.mpr ⟨ko_0 hz, fun _ h => absurd h List.not_mem_nil⟩) kk_102
/-- yX7_on -/
def kc_103 : Con := (81, [(2, none, 0, 0, 1), (0, (some ((-2147483648), 2147483647)), 0, 0, 0), (0, (some ((-2147483648), 2147483647)), 0, 0, 0)], [], [], [], [], [((some (0, (some ((-100), 127)))), [], [], [])])
def kt_103 : List (Nat × Nat × LpT) := []
set_option maxRecDepth 1000000 in
theorem kk_103 : chkC [kc_0, kc_102, kc_35] (mkT kt_103) 3000 kc_103 = true := by decide +kernel
theorem ko_103 {z : Int → Int} (hz : zOK z) : conOK z kc_103 := chk_ok hz (K := [kc_0, kc_102, kc_35]) (List.forall_mem_cons.mpr ⟨ko_0 hz, List.forall_mem_cons.mpr ⟨ko_102 hz, List.forall_mem_cons.mpr ⟨ko_35 hz, fun _ h => absurd h List.not_mem_nil⟩⟩⟩) kk_103
/-- yX8_below -/
def kc_104 : Con := (167, [(2, none, 213, 0, 1), (0, (some (0, 6)), 0, 0, 0)], [], [], [], [], [((some (0, (some (0, 127)))), [], [], [])])
def kt_104 : List (Nat × Nat × LpT) := [(167, 4, ([(2, 0, (some (0, 127))), (3, 0, (some (0, 7)))], [], [], [], [], [], ([((0, 3), (-1))], 8), []))]
set_option maxRecDepth 1000000 in
theorem kk_104 : chkC [kc_11, kc_79] (mkT kt_104) 3000 kc_104 = true := by decide +kernel
theorem ko_104 {z : Int → Int} (hz : zOK z) : conOK z kc_104 := chk_ok hz (K := [kc_11, kc_79]) (List.forall_mem_cons.mpr ⟨ko_11 hz, List.forall_mem_cons.mpr ⟨ko_79 hz, fun _ h => absurd h List.not_mem_nil⟩⟩) kk_104
/-- yX8_on -/
def kc_105 : Con := (166, [(2, none, 213, 0, 1), (0, (some ((-2147483648), 2147483647)), 0, 0, 0), (0, (some ((-2147483648), 2147483647)), 0, 0, 0)], [], [], [], [], [((some (0, (some ((-100), 127)))), [], [], [])])
def kt_105 : List (Nat × Nat × LpT) := []
set_option maxRecDepth 1000000 in
theorem kk_105 : chkC [kc_11, kc_104, kc_80] (mkT kt_105) 3000 kc_105 = true := by decide +kernel
theorem ko_105 {z : Int → Int} (hz : zOK z) : conOK z kc_105 := chk_ok hz (K := [kc_11, kc_104, kc_80]) (List.forall_mem_cons.mpr ⟨ko_11 hz, List.forall_mem_cons.mpr ⟨ko_104 hz, List.forall_mem_cons.mpr ⟨ko_80 hz, fun _ h => absurd h List.not_mem_nil⟩⟩⟩) kk_105
/-- yX1_floorContact -/
def kc_106 : Con := (29, [(2, none, 11, 1, 7)], [], [], [], [], [((some (0, (some (0, 20)))), [], [], [])])
def kt_106 : List (Nat × Nat × LpT) := []
set_option maxRecDepth 1000000 in
theorem kk_106 : chkC [kc_48] (mkT kt_106) 3000 kc_106 = true := by decide +kernel
theorem ko_106 {z : Int → Int} (hz : zOK z) : conOK z kc_106 := chk_ok hz (K := [kc_48]) (List.forall_mem_cons.mpr ⟨ko_48 hz, fun _ h => absurd h List.not_mem_nil⟩) kk_106
/-- yX7_contact -/
def kc_107 : Con := (82, [(2, none, 0, 0, 1), (0, (some ((-2147483648), 2147483647)), 0, 0, 0), (0, (some ((-2147483648), 2147483647)), 0, 0, 0)], [], [], [], [], [((some (0, (some ((-100), 144)))), [], [], [])])
def kt_107 : List (Nat × Nat × LpT) := []
set_option maxRecDepth 1000000 in
theorem kk_107 : chkC [kc_0, kc_106] (mkT kt_107) 3000 kc_107 = true := by decide +kernel
theorem ko_107 {z : Int → Int} (hz : zOK z) : conOK z kc_107 := chk_ok hz (K := [kc_0, kc_106]) (List.forall_mem_cons.mpr ⟨ko_0 hz, List.forall_mem_cons.mpr ⟨ko_106 hz, fun _ h => absurd h List.not_mem_nil⟩⟩) kk_107
/-- yX8_contact -/
def kc_108 : Con := (168, [(2, none, 213, 0, 1), (0, (some ((-2147483648), 2147483647)), 0, 0, 0), (0, (some ((-2147483648), 2147483647)), 0, 0, 0)], [], [], [], [], [((some (0, (some ((-100), 144)))), [], [], [])])
def kt_108 : List (Nat × Nat × LpT) := []
set_option maxRecDepth 1000000 in
theorem kk_108 : chkC [kc_11, kc_79] (mkT kt_108) 3000 kc_108 = true := by decide +kernel
theorem ko_108 {z : Int → Int} (hz : zOK z) : conOK z kc_108 := chk_ok hz (K := [kc_11, kc_79]) (List.forall_mem_cons.mpr ⟨ko_11 hz, List.forall_mem_cons.mpr ⟨ko_79 hz, fun _ h => absurd h List.not_mem_nil⟩⟩) kk_108
/-- yJ7_fill_53178 -/
def kc_109 : Con := (216, [(2, none, 55, 1, 7), (0, (some (0, 0)), 0, 0, 0)], [], [], [], [(55, 0, 6), (56, 0, 6), (57, 0, 6), (58, 0, 6), (59, 0, 6), (60, 0, 6), (61, 0, 6)], [(none, [], [], [])])
def kt_109 : List (Nat × Nat × LpT) := [(216, 5, ([(2, 0, (some (0, 128)))], [], [], [], [], [], ([((0, 2), (-1))], 129), []))]
set_option maxRecDepth 1000000 in
theorem kk_109 : chkC [] (mkT kt_109) 3000 kc_109 = true := by decide +kernel
theorem ko_109 {z : Int → Int} (hz : zOK z) : conOK z kc_109 := chk_ok hz (K := []) (fun _ h => absurd h List.not_mem_nil) kk_109
/-- yX0_heft -/
def kc_110 : Con := (3, [(2, none, 52, 0, 1), (0, (some (0, 6)), 0, 0, 0)], [(13317, (some (1, 1)))], [], [], [], [((some (0, none)), [], [], [])])
def kt_110 : List (Nat × Nat × LpT) := []
set_option maxRecDepth 1000000 in
theorem kk_110 : chkC [] (mkT kt_110) 3000 kc_110 = true := by decide +kernel
theorem ko_110 {z : Int → Int} (hz : zOK z) : conOK z kc_110 := chk_ok hz (K := []) (fun _ h => absurd h List.not_mem_nil) kk_110
/-- yX0_takeOn -/
def kc_111 : Con := (4, [(2, none, 52, 0, 1), (0, (some (0, 6)), 0, 0, 0), (0, (some (0, 6)), 0, 0, 0)], [(13317, (some (1, 1)))], [], [], [(53, 0, 6), (62, 0, 6), (63, 0, 6)], [(none, [], [], [])])
def kt_111 : List (Nat × Nat × LpT) := []
set_option maxRecDepth 1000000 in
theorem kk_111 : chkC [kc_2, kc_1, kc_4, kc_3] (mkT kt_111) 3000 kc_111 = true := by decide +kernel
theorem ko_111 {z : Int → Int} (hz : zOK z) : conOK z kc_111 := chk_ok hz (K := [kc_2, kc_1, kc_4, kc_3]) (List.forall_mem_cons.mpr ⟨ko_2 hz, List.forall_mem_cons.mpr ⟨ko_1 hz, List.forall_mem_cons.mpr ⟨ko_4 hz, List.forall_mem_cons.mpr ⟨ko_3 hz, fun _ h => absurd h List.not_mem_nil⟩⟩⟩⟩) kk_111
/-- yX0_handDown -/
def kc_112 : Con := (2, [(2, none, 52, 0, 1), (0, (some (0, 6)), 0, 0, 0)], [(13317, (some (1, 1)))], [], [], [(53, 0, 6), (55, 0, 6), (56, 0, 6), (57, 0, 6), (58, 0, 6), (59, 0, 6), (60, 0, 6), (61, 0, 6), (62, 0, 6), (63, 0, 6)], [(none, [], [], [])])
def kt_112 : List (Nat × Nat × LpT) := [(2, 29, ([(4, 0, (some (0, 1008))), (5, 0, (some (0, 7)))], [], [], [], [(([((0, 5), 144), ((0, 4), (-1))], 0), 0, 2000)], [], ([((0, 5), (-1))], 8), [])), (2, 76, ([(5, 0, none), (6, 0, (some (0, 7)))], [], [], [], [], [], ([((0, 6), (-1))], 8), [])), (2, 140, ([(5, 0, none), (6, 0, (some (0, 7)))], [], [], [], [], [], ([((0, 6), (-1))], 8), []))]
set_option maxRecDepth 1000000 in
theorem kk_112 : chkC [kc_44, kc_0, kc_110, kc_111] (mkT kt_112) 3000 kc_112 = true := by decide +kernel
theorem ko_112 {z : Int → Int} (hz : zOK z) : conOK z kc_112 := chk_ok hz (K := [kc_44, kc_0, kc_110, kc_111]) (List.forall_mem_cons.mpr ⟨ko_44 hz, List.forall_mem_cons.mpr ⟨ko_0 hz, List.forall_mem_cons.mpr ⟨ko_110 hz, List.forall_mem_cons.mpr ⟨ko_111 hz, fun _ h => absurd h List.not_mem_nil⟩⟩⟩⟩) kk_112
/-- yX4_add -/
def kc_113 : Con := (51, [(2, none, 82, 0, 1), (2, none, 11, 1, 7), (2, none, 11, 1, 7)], [], [], [], [(82, 4, 4), (83, 0, 27), (84, 0, 27)], [(none, [], [], [])])
def kt_113 : List (Nat × Nat × LpT) := []
set_option maxRecDepth 1000000 in
theorem kk_113 : chkC [kc_2, kc_4, kc_3, kc_1] (mkT kt_113) 3000 kc_113 = true := by decide +kernel
theorem ko_113 {z : Int → Int} (hz : zOK z) : conOK z kc_113 := chk_ok hz (K := [kc_2, kc_4, kc_3, kc_1]) (List.forall_mem_cons.mpr ⟨ko_2 hz, List.forall_mem_cons.mpr ⟨ko_4 hz, List.forall_mem_cons.mpr ⟨ko_3 hz, List.forall_mem_cons.mpr ⟨ko_1 hz, fun _ h => absurd h List.not_mem_nil⟩⟩⟩⟩) kk_113
/-- yX4_nextRound -/
def kc_114 : Con := (53, [(2, none, 82, 0, 1), (0, (some (0, 27)), 0, 0, 0)], [], [], [], [], [((some (0, (some (0, 27)))), [], [], [])])
def kt_114 : List (Nat × Nat × LpT) := [(53, 4, ([(2, 0, (some (0, 27))), (3, 0, (some (0, 28)))], [], [], [], [], [], ([((0, 3), (-1))], 29), []))]
set_option maxRecDepth 1000000 in
theorem kk_114 : chkC [] (mkT kt_114) 3000 kc_114 = true := by decide +kernel
theorem ko_114 {z : Int → Int} (hz : zOK z) : conOK z kc_114 := chk_ok hz (K := []) (fun _ h => absurd h List.not_mem_nil) kk_114
/-- yX4_wrap -/
def kc_115 : Con := (52, [(2, none, 82, 0, 1)], [], [], [], [(82, 5, 5), (85, 0, 27), (86, 0, 27)], [(none, [], [], [])])
def kt_115 : List (Nat × Nat × LpT) := [(52, 12, ([(1, 0, (some (0, 27))), (2, 0, (some (1, 28)))], [], [], [], [], [], ([((0, 2), (-1))], 29), [])), (52, 85, ([(2, 0, (some (0, 27)))], [], [], [(20997, (some (0, 28)))], [], [], ([((1, 20996), 1), ((1, 20997), (-1))], 0), [20997, 20996]))]
set_option maxRecDepth 1000000 in
theorem kk_115 : chkC [kc_114] (mkT kt_115) 3000 kc_115 = true := by decide +kernel
theorem ko_115 {z : Int → Int} (hz : zOK z) : conOK z kc_115 := chk_ok hz (K := [kc_114]) (List.forall_mem_cons.mpr ⟨ko_114 hz, fun _ h => absurd h List.not_mem_nil⟩) kk_115
