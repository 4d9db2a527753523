/-! ===== contracts, checked ===== -/
/-- yX8_there -/
def kc_11 : Con := (128, [(2, none, 213, 0, 1)], [], [], [], [], [((some (0, (some (0, 127)))), [], [], [])])
def kt_11 : List (Nat × Nat × LpT) := []
set_option maxRecDepth 1000000 in
theorem kk_11 : chkC [] (mkT kt_11) 3000 kc_11 = true := by decide +kernel
theorem ko_11 {z : Int → Int} (hz : zOK z) : conOK z kc_11 := chk_ok hz (K := []) (fun _ h => absurd h List.not_mem_nil) kk_11
/-- yX8_alongX -/
def kc_12 : Con := (131, [(2, none, 213, 0, 1), (0, (some (0, 7)), 0, 0, 0), (0, (some (0, 7)), 0, 0, 0)], [], [], [], [], [((some (0, (some (0, 12)))), [], [], [])])
def kt_12 : List (Nat × Nat × LpT) := []
set_option maxRecDepth 1000000 in
theorem kk_12 : chkC [] (mkT kt_12) 3000 kc_12 = true := by decide +kernel
theorem ko_12 {z : Int → Int} (hz : zOK z) : conOK z kc_12 := chk_ok hz (K := []) (fun _ h => absurd h List.not_mem_nil) kk_12
/-- yX8_alongY -/
def kc_13 : Con := (133, [(2, none, 213, 0, 1), (0, (some (0, 7)), 0, 0, 0), (0, (some (0, 7)), 0, 0, 0)], [], [], [], [], [((some (0, (some (0, 12)))), [], [], [])])
def kt_13 : List (Nat × Nat × LpT) := []
set_option maxRecDepth 1000000 in
theorem kk_13 : chkC [] (mkT kt_13) 3000 kc_13 = true := by decide +kernel
theorem ko_13 {z : Int → Int} (hz : zOK z) : conOK z kc_13 := chk_ok hz (K := []) (fun _ h => absurd h List.not_mem_nil) kk_13
/-- yX8_overlap -/
def kc_14 : Con := (130, [(2, none, 213, 0, 1), (0, (some (0, 7)), 0, 0, 0), (0, (some (0, 7)), 0, 0, 0)], [], [], [], [], [((some (0, (some (0, 144)))), [], [], [])])
def kt_14 : List (Nat × Nat × LpT) := []
set_option maxRecDepth 1000000 in
theorem kk_14 : chkC [kc_12, kc_13] (mkT kt_14) 3000 kc_14 = true := by decide +kernel
theorem ko_14 {z : Int → Int} (hz : zOK z) : conOK z kc_14 := chk_ok hz (K := [kc_12, kc_13]) (List.forall_mem_cons.mpr ⟨ko_12 hz, List.forall_mem_cons.mpr ⟨ko_13 hz, fun _ h => absurd h List.not_mem_nil⟩⟩) kk_14
/-- yX8_top -/
def kc_15 : Con := (134, [(2, none, 213, 0, 1), (0, (some (0, 7)), 0, 0, 0)], [], [], [], [], [((some (0, none)), [], [], [])])
def kt_15 : List (Nat × Nat × LpT) := []
set_option maxRecDepth 1000000 in
theorem kk_15 : chkC [] (mkT kt_15) 3000 kc_15 = true := by decide +kernel
theorem ko_15 {z : Int → Int} (hz : zOK z) : conOK z kc_15 := chk_ok hz (K := []) (fun _ h => absurd h List.not_mem_nil) kk_15
/-- yX8_more -/
def kc_16 : Con := (135, [(0, none, 0, 0, 0), (0, none, 0, 0, 0)], [], [], [], [], [((some (0, none)), [], [], [])])
def kt_16 : List (Nat × Nat × LpT) := []
set_option maxRecDepth 1000000 in
theorem kk_16 : chkC [] (mkT kt_16) 3000 kc_16 = true := by decide +kernel
theorem ko_16 {z : Int → Int} (hz : zOK z) : conOK z kc_16 := chk_ok hz (K := []) (fun _ h => absurd h List.not_mem_nil) kk_16
/-- yX8_box -/
def kc_17 : Con := (124, [(2, none, 213, 0, 1), (0, (some ((-2147483648), 2147483647)), 0, 0, 0), (0, (some ((-2147483648), 2147483647)), 0, 0, 0), (0, (some ((-2147483648), 2147483647)), 0, 0, 0), (0, (some ((-2147483648), 2147483647)), 0, 0, 0), (0, (some ((-2147483648), 2147483647)), 0, 0, 0)], [], [], [], [(214, 0, 0), (214, 2, 8), (214, 10, 16), (214, 18, 24), (214, 26, 32), (214, 34, 40), (214, 42, 48), (214, 50, 56), (214, 58, 64), (214, 66, 72)], [((some (0, (some ((-100), 6)))), [], [], [])])
def kt_17 : List (Nat × Nat × LpT) := [(127, 115, ([(7, 0, (some (0, 6)))], [], [], [], [], [], ([((0, 7), (-1))], 7), []))]
set_option maxRecDepth 1000000 in
theorem kk_17 : chkC [kc_11, kc_14, kc_15, kc_16] (mkT kt_17) 3000 kc_17 = true := by decide +kernel
theorem ko_17 {z : Int → Int} (hz : zOK z) : conOK z kc_17 := chk_ok hz (K := [kc_11, kc_14, kc_15, kc_16]) (List.forall_mem_cons.mpr ⟨ko_11 hz, List.forall_mem_cons.mpr ⟨ko_14 hz, List.forall_mem_cons.mpr ⟨ko_15 hz, List.forall_mem_cons.mpr ⟨ko_16 hz, fun _ h => absurd h List.not_mem_nil⟩⟩⟩⟩) kk_17
/-- yX1_size -/
def kc_18 : Con := (20, [(2, none, 11, 1, 7)], [], [], [], [], [((some (0, (some (0, 444)))), [], [], [])])
def kt_18 : List (Nat × Nat × LpT) := []
set_option maxRecDepth 1000000 in
theorem kk_18 : chkC [] (mkT kt_18) 3000 kc_18 = true := by decide +kernel
theorem ko_18 {z : Int → Int} (hz : zOK z) : conOK z kc_18 := chk_ok hz (K := []) (fun _ h => absurd h List.not_mem_nil) kk_18
/-- yX1_bears -/
def kc_19 : Con := (21, [(2, none, 11, 1, 7)], [], [], [], [], [((some (0, (some (0, 2147483647)))), [], [], [])])
def kt_19 : List (Nat × Nat × LpT) := []
set_option maxRecDepth 1000000 in
theorem kk_19 : chkC [] (mkT kt_19) 3000 kc_19 = true := by decide +kernel
theorem ko_19 {z : Int → Int} (hz : zOK z) : conOK z kc_19 := chk_ok hz (K := []) (fun _ h => absurd h List.not_mem_nil) kk_19
/-- yX1_grip -/
def kc_20 : Con := (22, [(2, none, 11, 1, 7)], [], [], [], [], [((some (0, (some (5, 99)))), [], [], [])])
def kt_20 : List (Nat × Nat × LpT) := []
set_option maxRecDepth 1000000 in
theorem kk_20 : chkC [] (mkT kt_20) 3000 kc_20 = true := by decide +kernel
theorem ko_20 {z : Int → Int} (hz : zOK z) : conOK z kc_20 := chk_ok hz (K := []) (fun _ h => absurd h List.not_mem_nil) kk_20
/-- yX7_of -/
def kc_21 : Con := (76, [(2, none, 0, 0, 1), (0, (some ((-2147483648), 2147483647)), 0, 0, 0), (0, (some ((-2147483648), 2147483647)), 0, 0, 0)], [], [], [], [], [((some (0, none)), [], [], [])])
def kt_21 : List (Nat × Nat × LpT) := []
set_option maxRecDepth 1000000 in
theorem kk_21 : chkC [kc_18, kc_0, kc_19, kc_20] (mkT kt_21) 3000 kc_21 = true := by decide +kernel
theorem ko_21 {z : Int → Int} (hz : zOK z) : conOK z kc_21 := chk_ok hz (K := [kc_18, kc_0, kc_19, kc_20]) (List.forall_mem_cons.mpr ⟨ko_18 hz, List.forall_mem_cons.mpr ⟨ko_0 hz, List.forall_mem_cons.mpr ⟨ko_19 hz, List.forall_mem_cons.mpr ⟨ko_20 hz, fun _ h => absurd h List.not_mem_nil⟩⟩⟩⟩) kk_21
/-- yX8_bearsBy -/
def kc_22 : Con := (138, [(0, (some ((-2147483648), 2147483647)), 0, 0, 0), (0, (some ((-2147483648), 2147483647)), 0, 0, 0)], [], [], [], [], [((some (0, (some ((-9223372036854775808), 9223372036854775807)))), [], [], [])])
def kt_22 : List (Nat × Nat × LpT) := []
set_option maxRecDepth 1000000 in
theorem kk_22 : chkC [] (mkT kt_22) 3000 kc_22 = true := by decide +kernel
theorem ko_22 {z : Int → Int} (hz : zOK z) : conOK z kc_22 := chk_ok hz (K := []) (fun _ h => absurd h List.not_mem_nil) kk_22
/-- yX8_gripBy -/
def kc_23 : Con := (139, [(0, (some ((-2147483648), 2147483647)), 0, 0, 0), (0, (some ((-2147483648), 2147483647)), 0, 0, 0)], [], [], [], [], [((some (0, (some ((-2147483648), 9223372036854775807)))), [], [], [])])
def kt_23 : List (Nat × Nat × LpT) := []
set_option maxRecDepth 1000000 in
theorem kk_23 : chkC [] (mkT kt_23) 3000 kc_23 = true := by decide +kernel
theorem ko_23 {z : Int → Int} (hz : zOK z) : conOK z kc_23 := chk_ok hz (K := []) (fun _ h => absurd h List.not_mem_nil) kk_23
/-- yX8_of -/
def kc_24 : Con := (136, [(2, none, 213, 0, 1), (0, (some ((-2147483648), 2147483647)), 0, 0, 0), (0, (some ((-2147483648), 2147483647)), 0, 0, 0)], [], [], [], [], [((some (0, none)), [], [], [])])
def kt_24 : List (Nat × Nat × LpT) := []
set_option maxRecDepth 1000000 in
theorem kk_24 : chkC [kc_22, kc_23] (mkT kt_24) 3000 kc_24 = true := by decide +kernel
theorem ko_24 {z : Int → Int} (hz : zOK z) : conOK z kc_24 := chk_ok hz (K := [kc_22, kc_23]) (List.forall_mem_cons.mpr ⟨ko_22 hz, List.forall_mem_cons.mpr ⟨ko_23 hz, fun _ h => absurd h List.not_mem_nil⟩⟩) kk_24
/-- yX7_kind -/
def kc_25 : Con := (77, [(2, none, 0, 0, 1), (0, (some ((-2147483648), 2147483647)), 0, 0, 0), (0, (some ((-2147483648), 2147483647)), 0, 0, 0), (0, (some ((-2147483648), 2147483647)), 0, 0, 0)], [], [], [], [(11, 0, 1), (12, 0, 1), (13, 0, 1), (14, 0, 1), (15, 0, 1), (16, 0, 1), (17, 0, 1)], [((some (0, (some ((-100), 59)))), [], [], [])])
def kt_25 : List (Nat × Nat × LpT) := []
set_option maxRecDepth 1000000 in
theorem kk_25 : chkC [kc_0] (mkT kt_25) 3000 kc_25 = true := by decide +kernel
theorem ko_25 {z : Int → Int} (hz : zOK z) : conOK z kc_25 := chk_ok hz (K := [kc_0]) (List.forall_mem_cons.mpr ⟨ko_0 hz, fun _ h => absurd h List.not_mem_nil⟩) kk_25
/-- yX8_kind -/
def kc_26 : Con := (140, [(2, none, 213, 0, 1), (0, (some ((-2147483648), 2147483647)), 0, 0, 0), (0, (some ((-2147483648), 2147483647)), 0, 0, 0), (0, (some ((-2147483648), 2147483647)), 0, 0, 0)], [], [], [], [(214, 2, 8), (214, 10, 16)], [((some (0, (some ((-100), 59)))), [], [], [])])
def kt_26 : List (Nat × Nat × LpT) := []
set_option maxRecDepth 1000000 in
theorem kk_26 : chkC [kc_11] (mkT kt_26) 3000 kc_26 = true := by decide +kernel
theorem ko_26 {z : Int → Int} (hz : zOK z) : conOK z kc_26 := chk_ok hz (K := [kc_11]) (List.forall_mem_cons.mpr ⟨ko_11 hz, fun _ h => absurd h List.not_mem_nil⟩) kk_26
/-- yX7_weigh -/
def kc_27 : Con := (78, [(2, none, 0, 0, 1), (0, (some ((-2147483648), 2147483647)), 0, 0, 0), (0, (some ((-2147483648), 2147483647)), 0, 0, 0), (0, (some ((-2147483648), 2147483647)), 0, 0, 0)], [], [], [], [(11, 8, 8), (12, 8, 8), (13, 8, 8), (14, 8, 8), (15, 8, 8), (16, 8, 8), (17, 8, 8)], [((some (0, (some ((-100), 999)))), [], [], [])])
def kt_27 : List (Nat × Nat × LpT) := []
set_option maxRecDepth 1000000 in
theorem kk_27 : chkC [kc_0] (mkT kt_27) 3000 kc_27 = true := by decide +kernel
theorem ko_27 {z : Int → Int} (hz : zOK z) : conOK z kc_27 := chk_ok hz (K := [kc_0]) (List.forall_mem_cons.mpr ⟨ko_0 hz, fun _ h => absurd h List.not_mem_nil⟩) kk_27
/-- yX8_weigh -/
def kc_28 : Con := (142, [(2, none, 213, 0, 1), (0, (some ((-2147483648), 2147483647)), 0, 0, 0), (0, (some ((-2147483648), 2147483647)), 0, 0, 0), (0, (some ((-2147483648), 2147483647)), 0, 0, 0)], [], [], [], [(214, 66, 72)], [((some (0, (some ((-100), 999)))), [], [], [])])
def kt_28 : List (Nat × Nat × LpT) := []
set_option maxRecDepth 1000000 in
theorem kk_28 : chkC [kc_11] (mkT kt_28) 3000 kc_28 = true := by decide +kernel
theorem ko_28 {z : Int → Int} (hz : zOK z) : conOK z kc_28 := chk_ok hz (K := [kc_11]) (List.forall_mem_cons.mpr ⟨ko_11 hz, fun _ h => absurd h List.not_mem_nil⟩) kk_28
/-- yX1_isOfKind -/
def kc_29 : Con := (23, [(2, none, 11, 1, 7), (0, (some ((-2147483648), 2147483647)), 0, 0, 0)], [], [], [], [], [((some (0, (some (0, 1)))), [], [], [])])
def kt_29 : List (Nat × Nat × LpT) := [(23, 7, ([(2, 0, (some ((-1), 5))), (3, 0, (some (0, 6)))], [], [], [], [], [], ([((0, 3), (-1))], 7), []))]
set_option maxRecDepth 1000000 in
theorem kk_29 : chkC [] (mkT kt_29) 3000 kc_29 = true := by decide +kernel
theorem ko_29 {z : Int → Int} (hz : zOK z) : conOK z kc_29 := chk_ok hz (K := []) (fun _ h => absurd h List.not_mem_nil) kk_29
/-- yX7_taken -/
def kc_30 : Con := (79, [(2, none, 0, 0, 1), (0, (some ((-2147483648), 2147483647)), 0, 0, 0), (0, (some ((-2147483648), 2147483647)), 0, 0, 0)], [], [], [], [], [((some (0, (some ((-100), 2147483647)))), [], [], [])])
def kt_30 : List (Nat × Nat × LpT) := []
set_option maxRecDepth 1000000 in
theorem kk_30 : chkC [kc_0, kc_29, kc_19] (mkT kt_30) 3000 kc_30 = true := by decide +kernel
theorem ko_30 {z : Int → Int} (hz : zOK z) : conOK z kc_30 := chk_ok hz (K := [kc_0, kc_29, kc_19]) (List.forall_mem_cons.mpr ⟨ko_0 hz, List.forall_mem_cons.mpr ⟨ko_29 hz, List.forall_mem_cons.mpr ⟨ko_19 hz, fun _ h => absurd h List.not_mem_nil⟩⟩⟩) kk_30
