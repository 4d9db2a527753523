/-! ===== contracts, checked ===== -/
/-- yX4_add -/
def kc_116 : Con := (51, [(2, none, 87, 0, 1), (2, none, 11, 1, 7), (2, none, 11, 1, 7)], [], [], [], [(87, 4, 4), (88, 0, 27), (89, 0, 27)], [(none, [], [], [])])
def kt_116 : List (Nat × Nat × LpT) := []
set_option maxRecDepth 1000000 in
theorem kk_116 : chkC [kc_2, kc_4, kc_3, kc_1] (mkT kt_116) 3000 kc_116 = true := by decide +kernel
theorem ko_116 {z : Int → Int} (hz : zOK z) : conOK z kc_116 := chk_ok hz (K := [kc_2, kc_4, kc_3, kc_1]) (List.forall_mem_cons.mpr ⟨ko_2 hz, List.forall_mem_cons.mpr ⟨ko_4 hz, List.forall_mem_cons.mpr ⟨ko_3 hz, List.forall_mem_cons.mpr ⟨ko_1 hz, fun _ h => absurd h List.not_mem_nil⟩⟩⟩⟩) kk_116
/-- yX4_nextRound -/
def kc_117 : Con := (53, [(2, none, 87, 0, 1), (0, (some (0, 27)), 0, 0, 0)], [], [], [], [], [((some (0, (some (0, 27)))), [], [], [])])
def kt_117 : List (Nat × Nat × LpT) := [(53, 4, ([(2, 0, (some (0, 27))), (3, 0, (some (0, 28)))], [], [], [], [], [], ([((0, 3), (-1))], 29), []))]
set_option maxRecDepth 1000000 in
theorem kk_117 : chkC [] (mkT kt_117) 3000 kc_117 = true := by decide +kernel
theorem ko_117 {z : Int → Int} (hz : zOK z) : conOK z kc_117 := chk_ok hz (K := []) (fun _ h => absurd h List.not_mem_nil) kk_117
/-- yX4_wrap -/
def kc_118 : Con := (52, [(2, none, 87, 0, 1)], [], [], [], [(87, 5, 5), (90, 0, 27), (91, 0, 27)], [(none, [], [], [])])
def kt_118 : List (Nat × Nat × LpT) := [(52, 12, ([(1, 0, (some (0, 27))), (2, 0, (some (1, 28)))], [], [], [], [], [], ([((0, 2), (-1))], 29), [])), (52, 85, ([(2, 0, (some (0, 27)))], [], [], [(22277, (some (0, 28)))], [], [], ([((1, 22276), 1), ((1, 22277), (-1))], 0), [22277, 22276]))]
set_option maxRecDepth 1000000 in
theorem kk_118 : chkC [kc_117] (mkT kt_118) 3000 kc_118 = true := by decide +kernel
theorem ko_118 {z : Int → Int} (hz : zOK z) : conOK z kc_118 := chk_ok hz (K := [kc_117]) (List.forall_mem_cons.mpr ⟨ko_117 hz, fun _ h => absurd h List.not_mem_nil⟩) kk_118
/-- yX4_add -/
def kc_119 : Con := (51, [(2, none, 92, 0, 1), (2, none, 11, 1, 7), (2, none, 11, 1, 7)], [], [], [], [(92, 4, 4), (93, 0, 27), (94, 0, 27)], [(none, [], [], [])])
def kt_119 : List (Nat × Nat × LpT) := []
set_option maxRecDepth 1000000 in
theorem kk_119 : chkC [kc_2, kc_4, kc_3, kc_1] (mkT kt_119) 3000 kc_119 = true := by decide +kernel
theorem ko_119 {z : Int → Int} (hz : zOK z) : conOK z kc_119 := chk_ok hz (K := [kc_2, kc_4, kc_3, kc_1]) (List.forall_mem_cons.mpr ⟨ko_2 hz, List.forall_mem_cons.mpr ⟨ko_4 hz, List.forall_mem_cons.mpr ⟨ko_3 hz, List.forall_mem_cons.mpr ⟨ko_1 hz, fun _ h => absurd h List.not_mem_nil⟩⟩⟩⟩) kk_119
/-- yX4_nextRound -/
def kc_120 : Con := (53, [(2, none, 92, 0, 1), (0, (some (0, 27)), 0, 0, 0)], [], [], [], [], [((some (0, (some (0, 27)))), [], [], [])])
def kt_120 : List (Nat × Nat × LpT) := [(53, 4, ([(2, 0, (some (0, 27))), (3, 0, (some (0, 28)))], [], [], [], [], [], ([((0, 3), (-1))], 29), []))]
set_option maxRecDepth 1000000 in
theorem kk_120 : chkC [] (mkT kt_120) 3000 kc_120 = true := by decide +kernel
theorem ko_120 {z : Int → Int} (hz : zOK z) : conOK z kc_120 := chk_ok hz (K := []) (fun _ h => absurd h List.not_mem_nil) kk_120
/-- yX4_wrap -/
def kc_121 : Con := (52, [(2, none, 92, 0, 1)], [], [], [], [(92, 5, 5), (95, 0, 27), (96, 0, 27)], [(none, [], [], [])])
def kt_121 : List (Nat × Nat × LpT) := [(52, 12, ([(1, 0, (some (0, 27))), (2, 0, (some (1, 28)))], [], [], [], [], [], ([((0, 2), (-1))], 29), [])), (52, 85, ([(2, 0, (some (0, 27)))], [], [], [(23557, (some (0, 28)))], [], [], ([((1, 23556), 1), ((1, 23557), (-1))], 0), [23557, 23556]))]
set_option maxRecDepth 1000000 in
theorem kk_121 : chkC [kc_120] (mkT kt_121) 3000 kc_121 = true := by decide +kernel
theorem ko_121 {z : Int → Int} (hz : zOK z) : conOK z kc_121 := chk_ok hz (K := [kc_120]) (List.forall_mem_cons.mpr ⟨ko_120 hz, fun _ h => absurd h List.not_mem_nil⟩) kk_121
/-- yX4_add -/
def kc_122 : Con := (51, [(2, none, 97, 0, 1), (2, none, 11, 1, 7), (2, none, 11, 1, 7)], [], [], [], [(97, 4, 4), (98, 0, 27), (99, 0, 27)], [(none, [], [], [])])
def kt_122 : List (Nat × Nat × LpT) := []
set_option maxRecDepth 1000000 in
theorem kk_122 : chkC [kc_2, kc_4, kc_3, kc_1] (mkT kt_122) 3000 kc_122 = true := by decide +kernel
theorem ko_122 {z : Int → Int} (hz : zOK z) : conOK z kc_122 := chk_ok hz (K := [kc_2, kc_4, kc_3, kc_1]) (List.forall_mem_cons.mpr ⟨ko_2 hz, List.forall_mem_cons.mpr ⟨ko_4 hz, List.forall_mem_cons.mpr ⟨ko_3 hz, List.forall_mem_cons.mpr ⟨ko_1 hz, fun _ h => absurd h List.not_mem_nil⟩⟩⟩⟩) kk_122
/-- yX4_nextRound -/
def kc_123 : Con := (53, [(2, none, 97, 0, 1), (0, (some (0, 27)), 0, 0, 0)], [], [], [], [], [((some (0, (some (0, 27)))), [], [], [])])
def kt_123 : List (Nat × Nat × LpT) := [(53, 4, ([(2, 0, (some (0, 27))), (3, 0, (some (0, 28)))], [], [], [], [], [], ([((0, 3), (-1))], 29), []))]
set_option maxRecDepth 1000000 in
theorem kk_123 : chkC [] (mkT kt_123) 3000 kc_123 = true := by decide +kernel
theorem ko_123 {z : Int → Int} (hz : zOK z) : conOK z kc_123 := chk_ok hz (K := []) (fun _ h => absurd h List.not_mem_nil) kk_123
/-- yX4_wrap -/
def kc_124 : Con := (52, [(2, none, 97, 0, 1)], [], [], [], [(97, 5, 5), (100, 0, 27), (101, 0, 27)], [(none, [], [], [])])
def kt_124 : List (Nat × Nat × LpT) := [(52, 12, ([(1, 0, (some (0, 27))), (2, 0, (some (1, 28)))], [], [], [], [], [], ([((0, 2), (-1))], 29), [])), (52, 85, ([(2, 0, (some (0, 27)))], [], [], [(24837, (some (0, 28)))], [], [], ([((1, 24836), 1), ((1, 24837), (-1))], 0), [24837, 24836]))]
set_option maxRecDepth 1000000 in
theorem kk_124 : chkC [kc_123] (mkT kt_124) 3000 kc_124 = true := by decide +kernel
theorem ko_124 {z : Int → Int} (hz : zOK z) : conOK z kc_124 := chk_ok hz (K := [kc_123]) (List.forall_mem_cons.mpr ⟨ko_123 hz, fun _ h => absurd h List.not_mem_nil⟩) kk_124
/-- yX4_add -/
def kc_125 : Con := (51, [(2, none, 102, 0, 1), (2, none, 11, 1, 7), (2, none, 11, 1, 7)], [], [], [], [(102, 4, 4), (103, 0, 27), (104, 0, 27)], [(none, [], [], [])])
def kt_125 : List (Nat × Nat × LpT) := []
set_option maxRecDepth 1000000 in
theorem kk_125 : chkC [kc_2, kc_4, kc_3, kc_1] (mkT kt_125) 3000 kc_125 = true := by decide +kernel
theorem ko_125 {z : Int → Int} (hz : zOK z) : conOK z kc_125 := chk_ok hz (K := [kc_2, kc_4, kc_3, kc_1]) (List.forall_mem_cons.mpr ⟨ko_2 hz, List.forall_mem_cons.mpr ⟨ko_4 hz, List.forall_mem_cons.mpr ⟨ko_3 hz, List.forall_mem_cons.mpr ⟨ko_1 hz, fun _ h => absurd h List.not_mem_nil⟩⟩⟩⟩) kk_125
/-- yX4_nextRound -/
def kc_126 : Con := (53, [(2, none, 102, 0, 1), (0, (some (0, 27)), 0, 0, 0)], [], [], [], [], [((some (0, (some (0, 27)))), [], [], [])])
def kt_126 : List (Nat × Nat × LpT) := [(53, 4, ([(2, 0, (some (0, 27))), (3, 0, (some (0, 28)))], [], [], [], [], [], ([((0, 3), (-1))], 29), []))]
set_option maxRecDepth 1000000 in
theorem kk_126 : chkC [] (mkT kt_126) 3000 kc_126 = true := by decide +kernel
theorem ko_126 {z : Int → Int} (hz : zOK z) : conOK z kc_126 := chk_ok hz (K := []) (fun _ h => absurd h List.not_mem_nil) kk_126
/-- yX4_wrap -/
def kc_127 : Con := (52, [(2, none, 102, 0, 1)], [], [], [], [(102, 5, 5), (105, 0, 27), (106, 0, 27)], [(none, [], [], [])])
def kt_127 : List (Nat × Nat × LpT) := [(52, 12, ([(1, 0, (some (0, 27))), (2, 0, (some (1, 28)))], [], [], [], [], [], ([((0, 2), (-1))], 29), [])), (52, 85, ([(2, 0, (some (0, 27)))], [], [], [(26117, (some (0, 28)))], [], [], ([((1, 26116), 1), ((1, 26117), (-1))], 0), [26117, 26116]))]
set_option maxRecDepth 1000000 in
theorem kk_127 : chkC [kc_126] (mkT kt_127) 3000 kc_127 = true := by decide +kernel
theorem ko_127 {z : Int → Int} (hz : zOK z) : conOK z kc_127 := chk_ok hz (K := [kc_126]) (List.forall_mem_cons.mpr ⟨ko_126 hz, fun _ h => absurd h List.not_mem_nil⟩) kk_127
/-- yX4_add -/
def kc_128 : Con := (51, [(2, none, 107, 0, 1), (2, none, 11, 1, 7), (2, none, 11, 1, 7)], [], [], [], [(107, 4, 4), (108, 0, 27), (109, 0, 27)], [(none, [], [], [])])
def kt_128 : List (Nat × Nat × LpT) := []
set_option maxRecDepth 1000000 in
theorem kk_128 : chkC [kc_2, kc_4, kc_3, kc_1] (mkT kt_128) 3000 kc_128 = true := by decide +kernel
theorem ko_128 {z : Int → Int} (hz : zOK z) : conOK z kc_128 := chk_ok hz (K := [kc_2, kc_4, kc_3, kc_1]) (List.forall_mem_cons.mpr ⟨ko_2 hz, List.forall_mem_cons.mpr ⟨ko_4 hz, List.forall_mem_cons.mpr ⟨ko_3 hz, List.forall_mem_cons.mpr ⟨ko_1 hz, fun _ h => absurd h List.not_mem_nil⟩⟩⟩⟩) kk_128
/-- yX4_nextRound -/
def kc_129 : Con := (53, [(2, none, 107, 0, 1), (0, (some (0, 27)), 0, 0, 0)], [], [], [], [], [((some (0, (some (0, 27)))), [], [], [])])
def kt_129 : List (Nat × Nat × LpT) := [(53, 4, ([(2, 0, (some (0, 27))), (3, 0, (some (0, 28)))], [], [], [], [], [], ([((0, 3), (-1))], 29), []))]
set_option maxRecDepth 1000000 in
theorem kk_129 : chkC [] (mkT kt_129) 3000 kc_129 = true := by decide +kernel
theorem ko_129 {z : Int → Int} (hz : zOK z) : conOK z kc_129 := chk_ok hz (K := []) (fun _ h => absurd h List.not_mem_nil) kk_129
/-- yX4_wrap -/
def kc_130 : Con := (52, [(2, none, 107, 0, 1)], [], [], [], [(107, 5, 5), (110, 0, 27), (111, 0, 27)], [(none, [], [], [])])
def kt_130 : List (Nat × Nat × LpT) := [(52, 12, ([(1, 0, (some (0, 27))), (2, 0, (some (1, 28)))], [], [], [], [], [], ([((0, 2), (-1))], 29), [])), (52, 85, ([(2, 0, (some (0, 27)))], [], [], [(27397, (some (0, 28)))], [], [], ([((1, 27396), 1), ((1, 27397), (-1))], 0), [27397, 27396]))]
set_option maxRecDepth 1000000 in
theorem kk_130 : chkC [kc_129] (mkT kt_130) 3000 kc_130 = true := by decide +kernel
theorem ko_130 {z : Int → Int} (hz : zOK z) : conOK z kc_130 := chk_ok hz (K := [kc_129]) (List.forall_mem_cons.mpr ⟨ko_129 hz, fun _ h => absurd h List.not_mem_nil⟩) kk_130
/-- yX4_add -/
def kc_131 : Con := (51, [(2, none, 112, 0, 1), (2, none, 11, 1, 7), (2, none, 11, 1, 7)], [], [], [], [(112, 4, 4), (113, 0, 27), (114, 0, 27)], [(none, [], [], [])])
def kt_131 : List (Nat × Nat × LpT) := []
set_option maxRecDepth 1000000 in
theorem kk_131 : chkC [kc_2, kc_4, kc_3, kc_1] (mkT kt_131) 3000 kc_131 = true := by decide +kernel
theorem ko_131 {z : Int → Int} (hz : zOK z) : conOK z kc_131 := chk_ok hz (K := [kc_2, kc_4, kc_3, kc_1]) (List.forall_mem_cons.mpr ⟨ko_2 hz, List.forall_mem_cons.mpr ⟨ko_4 hz, List.forall_mem_cons.mpr ⟨ko_3 hz, List.forall_mem_cons.mpr ⟨ko_1 hz, fun _ h => absurd h List.not_mem_nil⟩⟩⟩⟩) kk_131
/-- yX4_nextRound -/
def kc_132 : Con := (53, [(2, none, 112, 0, 1), (0, (some (0, 27)), 0, 0, 0)], [], [], [], [], [((some (0, (some (0, 27)))), [], [], [])])
def kt_132 : List (Nat × Nat × LpT) := [(53, 4, ([(2, 0, (some (0, 27))), (3, 0, (some (0, 28)))], [], [], [], [], [], ([((0, 3), (-1))], 29), []))]
set_option maxRecDepth 1000000 in
theorem kk_132 : chkC [] (mkT kt_132) 3000 kc_132 = true := by decide +kernel
theorem ko_132 {z : Int → Int} (hz : zOK z) : conOK z kc_132 := chk_ok hz (K := []) (fun _ h => absurd h List.not_mem_nil) kk_132
/-- yX4_wrap -/
def kc_133 : Con := (52, [(2, none, 112, 0, 1)], [], [], [], [(112, 5, 5), (115, 0, 27), (116, 0, 27)], [(none, [], [], [])])
def kt_133 : List (Nat × Nat × LpT) := [(52, 12, ([(1, 0, (some (0, 27))), (2, 0, (some (1, 28)))], [], [], [], [], [], ([((0, 2), (-1))], 29), [])), (52, 85, ([(2, 0, (some (0, 27)))], [], [], [(28677, (some (0, 28)))], [], [], ([((1, 28676), 1), ((1, 28677), (-1))], 0), [28677, 28676]))]
set_option maxRecDepth 1000000 in
theorem kk_133 : chkC [kc_132] (mkT kt_133) 3000 kc_133 = true := by decide +kernel
theorem ko_133 {z : Int → Int} (hz : zOK z) : conOK z kc_133 := chk_ok hz (K := [kc_132]) (List.forall_mem_cons.mpr ⟨ko_132 hz, fun _ h => absurd h List.not_mem_nil⟩) kk_133
