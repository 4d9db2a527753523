/-! ===== contracts, checked ===== -/
/-- yX8_isUnder -/
def kc_31 : Con := (144, [(0, (some ((-2147483648), 2147483647)), 0, 0, 0), (0, (some ((-2147483648), 2147483647)), 0, 0, 0)], [], [], [], [], [((some (0, (some (0, 1)))), [], [], [])])
def kt_31 : List (Nat × Nat × LpT) := []
set_option maxRecDepth 1000000 in
theorem kk_31 : chkC [] (mkT kt_31) 3000 kc_31 = true := by decide +kernel
theorem ko_31 {z : Int → Int} (hz : zOK z) : conOK z kc_31 := chk_ok hz (K := []) (fun _ h => absurd h List.not_mem_nil) kk_31
/-- yX8_taken -/
def kc_32 : Con := (143, [(2, none, 213, 0, 1), (0, (some ((-2147483648), 2147483647)), 0, 0, 0), (0, (some ((-2147483648), 2147483647)), 0, 0, 0)], [], [], [], [], [((some (0, (some ((-9223372036854775808), 9223372036854775807)))), [], [], [])])
def kt_32 : List (Nat × Nat × LpT) := []
set_option maxRecDepth 1000000 in
theorem kk_32 : chkC [kc_11, kc_31, kc_22] (mkT kt_32) 3000 kc_32 = true := by decide +kernel
theorem ko_32 {z : Int → Int} (hz : zOK z) : conOK z kc_32 := chk_ok hz (K := [kc_11, kc_31, kc_22]) (List.forall_mem_cons.mpr ⟨ko_11 hz, List.forall_mem_cons.mpr ⟨ko_31 hz, List.forall_mem_cons.mpr ⟨ko_22 hz, fun _ h => absurd h List.not_mem_nil⟩⟩⟩) kk_32
/-- yJ7_fill_53178 -/
def kc_33 : Con := (216, [(2, none, 183, 0, 1), (0, (some ((-1), (-1))), 0, 0, 0)], [], [], [], [(183, 0, 127)], [(none, [], [], [])])
def kt_33 : List (Nat × Nat × LpT) := [(216, 5, ([(2, 0, (some (0, 128)))], [], [], [], [], [], ([((0, 2), (-1))], 129), []))]
set_option maxRecDepth 1000000 in
theorem kk_33 : chkC [] (mkT kt_33) 3000 kc_33 = true := by decide +kernel
theorem ko_33 {z : Int → Int} (hz : zOK z) : conOK z kc_33 := chk_ok hz (K := []) (fun _ h => absurd h List.not_mem_nil) kk_33
/-- yX2_begin -/
def kc_34 : Con := (32, [(2, none, 117, 0, 1)], [], [], [], [(183, 0, 127)], [(none, [], [], [])])
def kt_34 : List (Nat × Nat × LpT) := []
set_option maxRecDepth 1000000 in
theorem kk_34 : chkC [kc_33] (mkT kt_34) 3000 kc_34 = true := by decide +kernel
theorem ko_34 {z : Int → Int} (hz : zOK z) : conOK z kc_34 := chk_ok hz (K := [kc_33]) (List.forall_mem_cons.mpr ⟨ko_33 hz, fun _ h => absurd h List.not_mem_nil⟩) kk_34
/-- yX3_above -/
def kc_35 : Con := (43, [(2, none, 1, 0, 1), (0, (some (0, 6)), 0, 0, 0), (0, (some ((-2147483648), 2147483647)), 0, 0, 0)], [], [], [], [], [((some (0, (some (0, 127)))), [], [], [])])
def kt_35 : List (Nat × Nat × LpT) := [(43, 5, ([(3, 0, (some (0, 127))), (4, 0, (some (0, 7)))], [], [], [], [], [], ([((0, 4), (-1))], 8), []))]
set_option maxRecDepth 1000000 in
theorem kk_35 : chkC [kc_0] (mkT kt_35) 3000 kc_35 = true := by decide +kernel
theorem ko_35 {z : Int → Int} (hz : zOK z) : conOK z kc_35 := chk_ok hz (K := [kc_0]) (List.forall_mem_cons.mpr ⟨ko_0 hz, fun _ h => absurd h List.not_mem_nil⟩) kk_35
/-- yX1_meetsAlongY -/
def kc_36 : Con := (24, [(2, none, 11, 1, 7), (2, none, 11, 1, 7)], [], [], [], [], [((some (0, (some (0, 1)))), [], [], [])])
def kt_36 : List (Nat × Nat × LpT) := []
set_option maxRecDepth 1000000 in
theorem kk_36 : chkC [kc_4, kc_3] (mkT kt_36) 3000 kc_36 = true := by decide +kernel
theorem ko_36 {z : Int → Int} (hz : zOK z) : conOK z kc_36 := chk_ok hz (K := [kc_4, kc_3]) (List.forall_mem_cons.mpr ⟨ko_4 hz, List.forall_mem_cons.mpr ⟨ko_3 hz, fun _ h => absurd h List.not_mem_nil⟩⟩) kk_36
/-- yX1_meetsInHeight -/
def kc_37 : Con := (25, [(2, none, 11, 1, 7), (2, none, 11, 1, 7)], [], [], [], [], [((some (0, (some (0, 1)))), [], [], [])])
def kt_37 : List (Nat × Nat × LpT) := []
set_option maxRecDepth 1000000 in
theorem kk_37 : chkC [kc_6] (mkT kt_37) 3000 kc_37 = true := by decide +kernel
theorem ko_37 {z : Int → Int} (hz : zOK z) : conOK z kc_37 := chk_ok hz (K := [kc_6]) (List.forall_mem_cons.mpr ⟨ko_6 hz, fun _ h => absurd h List.not_mem_nil⟩) kk_37
/-- yX3_inWay -/
def kc_38 : Con := (44, [(2, none, 1, 0, 1), (0, (some (0, 6)), 0, 0, 0), (0, (some ((-2147483648), 2147483647)), 0, 0, 0)], [], [], [], [], [((some (0, (some (0, 127)))), [], [], [])])
def kt_38 : List (Nat × Nat × LpT) := [(44, 13, ([(4, 0, (some (0, 127))), (5, 0, (some (0, 7)))], [], [], [], [], [], ([((0, 5), (-1))], 8), []))]
set_option maxRecDepth 1000000 in
theorem kk_38 : chkC [kc_0, kc_36, kc_37] (mkT kt_38) 3000 kc_38 = true := by decide +kernel
theorem ko_38 {z : Int → Int} (hz : zOK z) : conOK z kc_38 := chk_ok hz (K := [kc_0, kc_36, kc_37]) (List.forall_mem_cons.mpr ⟨ko_0 hz, List.forall_mem_cons.mpr ⟨ko_36 hz, List.forall_mem_cons.mpr ⟨ko_37 hz, fun _ h => absurd h List.not_mem_nil⟩⟩⟩) kk_38
/-- yJ7_fill_53178 -/
def kc_39 : Con := (216, [(2, none, 121, 0, 1), (0, (some (0, 0)), 0, 0, 0)], [], [], [], [(121, 0, 6)], [(none, [], [], [])])
def kt_39 : List (Nat × Nat × LpT) := [(216, 5, ([(2, 0, (some (0, 128)))], [], [], [], [], [], ([((0, 2), (-1))], 129), []))]
set_option maxRecDepth 1000000 in
theorem kk_39 : chkC [] (mkT kt_39) 3000 kc_39 = true := by decide +kernel
theorem ko_39 {z : Int → Int} (hz : zOK z) : conOK z kc_39 := chk_ok hz (K := []) (fun _ h => absurd h List.not_mem_nil) kk_39
/-- yX1_ownCentreX -/
def kc_40 : Con := (26, [(2, none, 11, 1, 7)], [], [], [], [], [((some (0, (some ((-100), 444)))), [], [], [])])
def kt_40 : List (Nat × Nat × LpT) := []
set_option maxRecDepth 1000000 in
theorem kk_40 : chkC [] (mkT kt_40) 3000 kc_40 = true := by decide +kernel
theorem ko_40 {z : Int → Int} (hz : zOK z) : conOK z kc_40 := chk_ok hz (K := []) (fun _ h => absurd h List.not_mem_nil) kk_40
/-- yX1_ownCentreY -/
def kc_41 : Con := (27, [(2, none, 11, 1, 7)], [], [], [], [], [((some (0, (some (0, 444)))), [], [], [])])
def kt_41 : List (Nat × Nat × LpT) := []
set_option maxRecDepth 1000000 in
theorem kk_41 : chkC [] (mkT kt_41) 3000 kc_41 = true := by decide +kernel
theorem ko_41 {z : Int → Int} (hz : zOK z) : conOK z kc_41 := chk_ok hz (K := []) (fun _ h => absurd h List.not_mem_nil) kk_41
/-- yJ7_fill_53178 -/
def kc_42 : Con := (216, [(2, none, 121, 1, 7), (0, (some (0, 0)), 0, 0, 0)], [], [], [], [(121, 0, 6), (122, 0, 6), (123, 0, 6), (124, 0, 6), (125, 0, 6), (126, 0, 6), (127, 0, 6)], [(none, [], [], [])])
def kt_42 : List (Nat × Nat × LpT) := [(216, 5, ([(2, 0, (some (0, 128)))], [], [], [], [], [], ([((0, 2), (-1))], 129), []))]
set_option maxRecDepth 1000000 in
theorem kk_42 : chkC [] (mkT kt_42) 3000 kc_42 = true := by decide +kernel
theorem ko_42 {z : Int → Int} (hz : zOK z) : conOK z kc_42 := chk_ok hz (K := []) (fun _ h => absurd h List.not_mem_nil) kk_42
/-- yX7_isIn -/
def kc_43 : Con := (75, [(0, (some ((-2147483648), 2147483647)), 0, 0, 0), (0, none, 0, 0, 0)], [], [], [], [], [((some (0, (some (0, 1)))), [], [], [])])
def kt_43 : List (Nat × Nat × LpT) := []
set_option maxRecDepth 1000000 in
theorem kk_43 : chkC [] (mkT kt_43) 3000 kc_43 = true := by decide +kernel
theorem ko_43 {z : Int → Int} (hz : zOK z) : conOK z kc_43 := chk_ok hz (K := []) (fun _ h => absurd h List.not_mem_nil) kk_43
/-- yX3_below -/
def kc_44 : Con := (45, [(2, none, 1, 0, 1), (0, (some (0, 6)), 0, 0, 0), (0, none, 0, 0, 0)], [], [], [], [], [((some (0, (some (0, 127)))), [], [], [])])
def kt_44 : List (Nat × Nat × LpT) := [(45, 5, ([(3, 0, (some (0, 127))), (4, 0, (some (0, 7)))], [], [], [], [], [], ([((0, 4), (-1))], 8), []))]
set_option maxRecDepth 1000000 in
theorem kk_44 : chkC [kc_43] (mkT kt_44) 3000 kc_44 = true := by decide +kernel
theorem ko_44 {z : Int → Int} (hz : zOK z) : conOK z kc_44 := chk_ok hz (K := [kc_43]) (List.forall_mem_cons.mpr ⟨ko_43 hz, fun _ h => absurd h List.not_mem_nil⟩) kk_44
/-- yX0_heft -/
def kc_45 : Con := (3, [(2, none, 118, 0, 1), (0, (some (0, 6)), 0, 0, 0)], [(30213, (some (1, 1)))], [], [], [], [((some (0, none)), [], [], [])])
def kt_45 : List (Nat × Nat × LpT) := []
set_option maxRecDepth 1000000 in
theorem kk_45 : chkC [] (mkT kt_45) 3000 kc_45 = true := by decide +kernel
theorem ko_45 {z : Int → Int} (hz : zOK z) : conOK z kc_45 := chk_ok hz (K := []) (fun _ h => absurd h List.not_mem_nil) kk_45
/-- yX0_takeOn -/
def kc_46 : Con := (4, [(2, none, 118, 0, 1), (0, (some (0, 6)), 0, 0, 0), (0, (some (0, 6)), 0, 0, 0)], [(30213, (some (1, 1)))], [], [], [(119, 0, 6), (128, 0, 6), (129, 0, 6)], [(none, [], [], [])])
def kt_46 : List (Nat × Nat × LpT) := []
set_option maxRecDepth 1000000 in
theorem kk_46 : chkC [kc_2, kc_1, kc_4, kc_3] (mkT kt_46) 3000 kc_46 = true := by decide +kernel
theorem ko_46 {z : Int → Int} (hz : zOK z) : conOK z kc_46 := chk_ok hz (K := [kc_2, kc_1, kc_4, kc_3]) (List.forall_mem_cons.mpr ⟨ko_2 hz, List.forall_mem_cons.mpr ⟨ko_1 hz, List.forall_mem_cons.mpr ⟨ko_4 hz, List.forall_mem_cons.mpr ⟨ko_3 hz, fun _ h => absurd h List.not_mem_nil⟩⟩⟩⟩) kk_46
/-- yX0_handDown -/
def kc_47 : Con := (2, [(2, none, 118, 0, 1), (0, (some (0, 6)), 0, 0, 0)], [(30213, (some (1, 1)))], [], [], [(119, 0, 6), (121, 0, 6), (122, 0, 6), (123, 0, 6), (124, 0, 6), (125, 0, 6), (126, 0, 6), (127, 0, 6), (128, 0, 6), (129, 0, 6)], [(none, [], [], [])])
def kt_47 : List (Nat × Nat × LpT) := [(2, 29, ([(4, 0, (some (0, 1008))), (5, 0, (some (0, 7)))], [], [], [], [(([((0, 5), 144), ((0, 4), (-1))], 0), 0, 2000)], [], ([((0, 5), (-1))], 8), [])), (2, 76, ([(5, 0, none), (6, 0, (some (0, 7)))], [], [], [], [], [], ([((0, 6), (-1))], 8), [])), (2, 140, ([(5, 0, none), (6, 0, (some (0, 7)))], [], [], [], [], [], ([((0, 6), (-1))], 8), []))]
set_option maxRecDepth 1000000 in
theorem kk_47 : chkC [kc_44, kc_0, kc_45, kc_46] (mkT kt_47) 3000 kc_47 = true := by decide +kernel
theorem ko_47 {z : Int → Int} (hz : zOK z) : conOK z kc_47 := chk_ok hz (K := [kc_44, kc_0, kc_45, kc_46]) (List.forall_mem_cons.mpr ⟨ko_44 hz, List.forall_mem_cons.mpr ⟨ko_0 hz, List.forall_mem_cons.mpr ⟨ko_45 hz, List.forall_mem_cons.mpr ⟨ko_46 hz, fun _ h => absurd h List.not_mem_nil⟩⟩⟩⟩) kk_47
