/-! ===== contracts, checked ===== -/
/-- yX8_spot -/
def kc_208 : Con := (188, [(2, none, 213, 0, 1), (0, (some ((-2147483648), 2147483647)), 0, 0, 0), (0, (some ((-2147483648), 2147483647)), 0, 0, 0), (0, (some ((-2147483648), 2147483647)), 0, 0, 0)], [], [], [], [(213, 9, 14), (214, 0, 0), (214, 2, 8), (214, 10, 16), (214, 18, 24), (214, 26, 32), (214, 34, 40), (214, 42, 48), (214, 50, 56), (214, 58, 64), (214, 66, 72), (216, 0, 7), (217, 0, 63), (218, 0, 31), (219, 0, 31), (220, 0, 62), (221, 0, 62)], [((some (0, none)), [], [], [])])
def kt_208 : List (Nat × Nat × LpT) := [(127, 115, ([(7, 0, (some (0, 6)))], [], [], [], [], [], ([((0, 7), (-1))], 7), [])), (188, 53, ([(4, 0, none), (5, 0, (some ((-1), 63))), (6, 0, (some (0, 64)))], [], [], [], [], [], ([((0, 6), (-1))], 65), []))]
set_option maxRecDepth 1000000 in
theorem kk_208 : chkC [kc_11, kc_14, kc_15, kc_16, kc_98] (mkT kt_208) 3000 kc_208 = true := by decide +kernel
theorem ko_208 {z : Int → Int} (hz : zOK z) : conOK z kc_208 := chk_ok hz (K := [kc_11, kc_14, kc_15, kc_16, kc_98]) (List.forall_mem_cons.mpr ⟨ko_11 hz, List.forall_mem_cons.mpr ⟨ko_14 hz, List.forall_mem_cons.mpr ⟨ko_15 hz, List.forall_mem_cons.mpr ⟨ko_16 hz, List.forall_mem_cons.mpr ⟨ko_98 hz, fun _ h => absurd h List.not_mem_nil⟩⟩⟩⟩⟩) kk_208
