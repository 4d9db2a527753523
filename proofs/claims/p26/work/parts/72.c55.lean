/-! ===== contracts, checked ===== -/
/-- yX8_comes -/
def kc_256 : Con := (206, [(2, none, 213, 0, 1), (0, (some ((-2147483648), 2147483647)), 0, 0, 0), (0, (some ((-2147483648), 2147483647)), 0, 0, 0), (0, (some ((-2147483648), 2147483647)), 0, 0, 0), (0, (some ((-2147483648), 2147483647)), 0, 0, 0)], [], [], [], [(214, 0, 0), (214, 2, 8), (214, 10, 16), (214, 18, 24), (214, 26, 32), (214, 34, 40), (214, 42, 48), (214, 50, 56), (214, 58, 64), (214, 66, 72)], [((some (0, none)), [], [], [])])
def kt_256 : List (Nat × Nat × LpT) := [(206, 61, ([(5, 0, none), (6, 0, (some (0, 7)))], [7], [], [], [], [], ([((0, 6), (-1))], 8), []))]
set_option maxRecDepth 1000000 in
theorem kk_256 : chkC [kc_17] (mkT kt_256) 3000 kc_256 = true := by decide +kernel
theorem ko_256 {z : Int → Int} (hz : zOK z) : conOK z kc_256 := chk_ok hz (K := [kc_17]) (List.forall_mem_cons.mpr ⟨ko_17 hz, fun _ h => absurd h List.not_mem_nil⟩) kk_256
