/-! ===== contracts, checked ===== -/
/-- yX8_isDone -/
def kc_241 : Con := (200, [(2, none, 213, 0, 1), (0, (some (0, 3)), 0, 0, 0)], [], [], [], [(213, 9, 14), (214, 0, 8), (214, 10, 16), (214, 18, 24), (214, 26, 32), (214, 34, 40), (214, 42, 48), (214, 50, 56), (214, 58, 64), (214, 66, 72), (216, 0, 7), (217, 0, 63), (218, 0, 31), (219, 0, 31), (220, 0, 62), (221, 0, 62)], [((some (0, (some (0, 1)))), [], [], [])])
def kt_241 : List (Nat × Nat × LpT) := []
set_option maxRecDepth 1000000 in
theorem kk_241 : chkC [kc_101, kc_17, kc_26, kc_28] (mkT kt_241) 3000 kc_241 = true := by decide +kernel
theorem ko_241 {z : Int → Int} (hz : zOK z) : conOK z kc_241 := chk_ok hz (K := [kc_101, kc_17, kc_26, kc_28]) (List.forall_mem_cons.mpr ⟨ko_101 hz, List.forall_mem_cons.mpr ⟨ko_17 hz, List.forall_mem_cons.mpr ⟨ko_26 hz, List.forall_mem_cons.mpr ⟨ko_28 hz, fun _ h => absurd h List.not_mem_nil⟩⟩⟩⟩) kk_241
/-- yX8_reads -/
def kc_242 : Con := (195, [(2, none, 213, 0, 1), (0, (some ((-2147483648), 2147483647)), 0, 0, 0)], [(54553, (some (0, 60)))], [], [], [(213, 9, 14), (213, 23, 24), (214, 0, 8), (214, 10, 16), (214, 18, 24), (214, 26, 32), (214, 34, 40), (214, 42, 48), (214, 50, 56), (214, 58, 64), (214, 66, 72), (216, 0, 7), (217, 0, 63), (218, 0, 31), (219, 0, 31), (220, 0, 62), (221, 0, 62), (225, 0, 4)], [((some (0, none)), [], [], [])])
def kt_242 : List (Nat × Nat × LpT) := [(195, 9, ([(2, 0, none), (3, 0, (some (0, 4)))], [], [], [(54551, (some (0, 60)))], [(([((1, 54553), 1), ((1, 54551), (-1))], 0), 0, 60)], [], ([((1, 54551), (-5)), ((0, 3), (-1))], 305), [54551, 54553, 54551, 54551]))]
set_option maxRecDepth 1000000 in
theorem kk_242 : chkC [kc_240, kc_238, kc_241] (mkT kt_242) 3000 kc_242 = true := by decide +kernel
theorem ko_242 {z : Int → Int} (hz : zOK z) : conOK z kc_242 := chk_ok hz (K := [kc_240, kc_238, kc_241]) (List.forall_mem_cons.mpr ⟨ko_240 hz, List.forall_mem_cons.mpr ⟨ko_238 hz, List.forall_mem_cons.mpr ⟨ko_241 hz, fun _ h => absurd h List.not_mem_nil⟩⟩⟩) kk_242
