/-! ===== contracts, checked ===== -/
/-- yX7_isIn -/
def kc_0 : Con := (75, [(0, (some ((-2147483648), 2147483647)), 0, 0, 0), (0, (some ((-2147483648), 2147483647)), 0, 0, 0)], [], [], [], [], [((some (0, (some (0, 1)))), [], [], [])])
def kt_0 : List (Nat × Nat × LpT) := []
set_option maxRecDepth 1000000 in
theorem kk_0 : chkC [] (mkT kt_0) 3000 kc_0 = true := by decide +kernel
theorem ko_0 {z : Int → Int} (hz : zOK z) : conOK z kc_0 := chk_ok hz (K := []) (fun _ h => absurd h List.not_mem_nil) kk_0
/-- yX1_right -/
def kc_1 : Con := (15, [(2, none, 11, 1, 7), (2, none, 11, 1, 7)], [], [], [], [], [((some (0, (some (0, 12)))), [], [], [])])
def kt_1 : List (Nat × Nat × LpT) := []
set_option maxRecDepth 1000000 in
theorem kk_1 : chkC [] (mkT kt_1) 3000 kc_1 = true := by decide +kernel
theorem ko_1 {z : Int → Int} (hz : zOK z) : conOK z kc_1 := chk_ok hz (K := []) (fun _ h => absurd h List.not_mem_nil) kk_1
/-- yX1_left -/
def kc_2 : Con := (16, [(2, none, 11, 1, 7), (2, none, 11, 1, 7)], [], [], [], [], [((some (0, (some (0, 8)))), [], [], [])])
def kt_2 : List (Nat × Nat × LpT) := []
set_option maxRecDepth 1000000 in
theorem kk_2 : chkC [] (mkT kt_2) 3000 kc_2 = true := by decide +kernel
theorem ko_2 {z : Int → Int} (hz : zOK z) : conOK z kc_2 := chk_ok hz (K := []) (fun _ h => absurd h List.not_mem_nil) kk_2
/-- yX1_far -/
def kc_3 : Con := (17, [(2, none, 11, 1, 7), (2, none, 11, 1, 7)], [], [], [], [], [((some (0, (some (0, 12)))), [], [], [])])
def kt_3 : List (Nat × Nat × LpT) := []
set_option maxRecDepth 1000000 in
theorem kk_3 : chkC [] (mkT kt_3) 3000 kc_3 = true := by decide +kernel
theorem ko_3 {z : Int → Int} (hz : zOK z) : conOK z kc_3 := chk_ok hz (K := []) (fun _ h => absurd h List.not_mem_nil) kk_3
/-- yX1_near -/
def kc_4 : Con := (18, [(2, none, 11, 1, 7), (2, none, 11, 1, 7)], [], [], [], [], [((some (0, (some (0, 8)))), [], [], [])])
def kt_4 : List (Nat × Nat × LpT) := []
set_option maxRecDepth 1000000 in
theorem kk_4 : chkC [] (mkT kt_4) 3000 kc_4 = true := by decide +kernel
theorem ko_4 {z : Int → Int} (hz : zOK z) : conOK z kc_4 := chk_ok hz (K := []) (fun _ h => absurd h List.not_mem_nil) kk_4
/-- yX1_areaWith -/
def kc_5 : Con := (14, [(2, none, 11, 1, 7), (2, none, 11, 1, 7)], [], [], [], [], [((some (0, (some (0, 144)))), [], [], [])])
def kt_5 : List (Nat × Nat × LpT) := []
set_option maxRecDepth 1000000 in
theorem kk_5 : chkC [kc_1, kc_2, kc_3, kc_4] (mkT kt_5) 3000 kc_5 = true := by decide +kernel
theorem ko_5 {z : Int → Int} (hz : zOK z) : conOK z kc_5 := chk_ok hz (K := [kc_1, kc_2, kc_3, kc_4]) (List.forall_mem_cons.mpr ⟨ko_1 hz, List.forall_mem_cons.mpr ⟨ko_2 hz, List.forall_mem_cons.mpr ⟨ko_3 hz, List.forall_mem_cons.mpr ⟨ko_4 hz, fun _ h => absurd h List.not_mem_nil⟩⟩⟩⟩) kk_5
/-- yX1_top -/
def kc_6 : Con := (19, [(2, none, 11, 1, 7)], [], [], [], [], [((some (0, none)), [], [], [])])
def kt_6 : List (Nat × Nat × LpT) := []
set_option maxRecDepth 1000000 in
theorem kk_6 : chkC [] (mkT kt_6) 3000 kc_6 = true := by decide +kernel
theorem ko_6 {z : Int → Int} (hz : zOK z) : conOK z kc_6 := chk_ok hz (K := []) (fun _ h => absurd h List.not_mem_nil) kk_6
/-- yX3_greatestTopUnder -/
def kc_7 : Con := (39, [(2, none, 1, 0, 1), (2, none, 11, 1, 7)], [], [], [], [], [((some (0, none)), [], [], [])])
def kt_7 : List (Nat × Nat × LpT) := [(39, 4, ([(2, 0, none), (3, 0, (some (0, 7)))], [], [], [], [], [], ([((0, 3), (-1))], 8), []))]
set_option maxRecDepth 1000000 in
theorem kk_7 : chkC [kc_0, kc_5, kc_6] (mkT kt_7) 3000 kc_7 = true := by decide +kernel
theorem ko_7 {z : Int → Int} (hz : zOK z) : conOK z kc_7 := chk_ok hz (K := [kc_0, kc_5, kc_6]) (List.forall_mem_cons.mpr ⟨ko_0 hz, List.forall_mem_cons.mpr ⟨ko_5 hz, List.forall_mem_cons.mpr ⟨ko_6 hz, fun _ h => absurd h List.not_mem_nil⟩⟩⟩) kk_7
/-- yX3_noteContacts -/
def kc_8 : Con := (40, [(2, none, 1, 0, 1), (0, (some (0, 6)), 0, 0, 0)], [], [], [], [(4, 0, 6), (5, 0, 6), (6, 0, 6), (7, 0, 6), (8, 0, 6), (9, 0, 6), (10, 0, 6)], [(none, [], [], [])])
def kt_8 : List (Nat × Nat × LpT) := [(40, 2, ([(2, 0, (some (0, 7)))], [], [], [], [], [], ([((0, 2), (-1))], 8), []))]
set_option maxRecDepth 1000000 in
theorem kk_8 : chkC [kc_6, kc_5] (mkT kt_8) 3000 kc_8 = true := by decide +kernel
theorem ko_8 {z : Int → Int} (hz : zOK z) : conOK z kc_8 := chk_ok hz (K := [kc_6, kc_5]) (List.forall_mem_cons.mpr ⟨ko_6 hz, List.forall_mem_cons.mpr ⟨ko_5 hz, fun _ h => absurd h List.not_mem_nil⟩⟩) kk_8
/-- yX3_receive -/
def kc_9 : Con := (38, [(2, none, 1, 0, 1), (0, (some ((-2147483648), 2147483647)), 0, 0, 0), (0, (some ((-2147483648), 2147483647)), 0, 0, 0), (0, (some ((-2147483648), 2147483647)), 0, 0, 0), (0, (some ((-2147483648), 2147483647)), 0, 0, 0), (0, (some ((-2147483648), 2147483647)), 0, 0, 0)], [], [], [], [(1, 2, 3), (4, 0, 6), (5, 0, 6), (6, 0, 6), (7, 0, 6), (8, 0, 6), (9, 0, 6), (10, 0, 6), (11, 0, 8), (12, 0, 8), (13, 0, 8), (14, 0, 8), (15, 0, 8), (16, 0, 8), (17, 0, 8)], [((some (0, (some ((-100), 6)))), [], [], [])])
def kt_9 : List (Nat × Nat × LpT) := []
set_option maxRecDepth 1000000 in
theorem kk_9 : chkC [kc_7, kc_6, kc_8] (mkT kt_9) 3000 kc_9 = true := by decide +kernel
theorem ko_9 {z : Int → Int} (hz : zOK z) : conOK z kc_9 := chk_ok hz (K := [kc_7, kc_6, kc_8]) (List.forall_mem_cons.mpr ⟨ko_7 hz, List.forall_mem_cons.mpr ⟨ko_6 hz, List.forall_mem_cons.mpr ⟨ko_8 hz, fun _ h => absurd h List.not_mem_nil⟩⟩⟩) kk_9
/-- yX7_box -/
def kc_10 : Con := (70, [(2, none, 0, 0, 1), (0, (some ((-2147483648), 2147483647)), 0, 0, 0), (0, (some ((-2147483648), 2147483647)), 0, 0, 0), (0, (some ((-2147483648), 2147483647)), 0, 0, 0), (0, (some ((-2147483648), 2147483647)), 0, 0, 0), (0, (some ((-2147483648), 2147483647)), 0, 0, 0)], [], [], [], [(1, 2, 3), (4, 0, 6), (5, 0, 6), (6, 0, 6), (7, 0, 6), (8, 0, 6), (9, 0, 6), (10, 0, 6), (11, 0, 8), (12, 0, 8), (13, 0, 8), (14, 0, 8), (15, 0, 8), (16, 0, 8), (17, 0, 8)], [((some (0, (some ((-100), 6)))), [], [], [])])
def kt_10 : List (Nat × Nat × LpT) := []
set_option maxRecDepth 1000000 in
theorem kk_10 : chkC [kc_9] (mkT kt_10) 3000 kc_10 = true := by decide +kernel
theorem ko_10 {z : Int → Int} (hz : zOK z) : conOK z kc_10 := chk_ok hz (K := [kc_9]) (List.forall_mem_cons.mpr ⟨ko_9 hz, fun _ h => absurd h List.not_mem_nil⟩) kk_10
