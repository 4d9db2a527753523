/-! ===== centre ===== -/
def kc_la : Con := (152, [(2, none, 213, 0, 1), (0, (some (0, 127)), 0, 0, 0)], [], [], [], Wh, [(none, (List.range 7).map (fun i => (55296 + i, .inl (some (0, 127127)))), [], [(120832, ([], 8)), (121088, ([], 64))])])
theorem ko_la {z : Int → Int} (hz : zOK z) : conOK z kc_la := by
  intro avs V1 V2 h g h1 h2 hB hg hf hr
  obtain ⟨w, ws, x, xs, rfl, rfl, k1, k2⟩ := args1 h1
  obtain ⟨w2, ws2, x2, xs2, rfl, rfl, k3, k4⟩ := args1 k2
  obtain ⟨rfl, rfl⟩ := args0 k4
  obtain ⟨e2, e3⟩ := argI k3
  have hb : 0 ≤ x2 ∧ x2 ≤ 127 := e3 (0, 127) rfl
  rw [argR k1, e2]
  obtain ⟨h', q1, q2, q3, q4⟩ := laD hz hB hg (s := x2.toNat) (by omega)
  rw [show ((x2.toNat : Nat) : Int) = x2 from by omega] at q1
  refine ⟨_, h', g, q1, q2.1, q2.2, hg, _, List.mem_cons_self, 0, trivial, fun q hq => ?_, (fun q hq => by cases hq), fun q hq => ?_⟩
  · obtain ⟨i, hi, rfl⟩ := List.mem_map.mp hq
    have hi := List.mem_range.mp hi
    have e : cel h' (55296 + i) = h' 216 (i : Int) := by
      unfold cel
      rw [show (55296 + i) / 256 = 216 from by omega, show (55296 + i) % 256 = i from by omega]
      rfl
    refine ⟨⟨by simp only; omega, ?_⟩, ?_⟩
    · show rdk h' (((55296 + i) / 256 : Nat) : Int) (((55296 + i) % 256 : Nat) : Int) = true
      rw [show (55296 + i) / 256 = 216 from by omega, show (55296 + i) % 256 = i from by omega]
      exact rd_fl (q3.1 (i : Int) (by omega) (by omega))
    · show bnd (some (0, 127127)) (cel h' (55296 + i))
      rw [e]
      intro q hq
      cases hq
      exact q4.2 (i : Int) (by omega) (by omega)
  · rcases List.mem_cons.mp hq with rfl | hq
    · exact ⟨by decide, fun j (j0 : (0 : Int) ≤ j) (j1 : j < 0 + 8) => q3.1 j j0 (by omega)⟩
    rcases List.mem_cons.mp hq with rfl | hq
    · exact ⟨by decide, fun j (j0 : (0 : Int) ≤ j) (j1 : j < 0 + 64) => q3.2 j j0 (by omega)⟩
    cases hq
def kc_ce : Con := (171, [(2, none, 213, 0, 1), (0, (some ((-2147483648), 2147483647)), 0, 0, 0), (0, (some ((-2147483648), 2147483647)), 0, 0, 0), (0, (some ((-2147483648), 2147483647)), 0, 0, 0)], [], [], [], [(213, 9, 14), (216, 0, 7), (217, 0, 63), (218, 0, 31), (219, 0, 31), (220, 0, 63), (221, 0, 63)], [((some (1, none)), [], [], [])])
def kzC (iv : IV) (pre : List (Nat × Option IV)) : Con := (171, [(2, none, 213, 0, 1), (0, some iv, 0, 0, 0), (0, (some ((-2147483648), 2147483647)), 0, 0, 0), (0, (some ((-2147483648), 2147483647)), 0, 0, 0)], pre, [], [], kc_ce.2.2.2.2.2.1, [((some (1, none)), [], [], [])])
def kzA (b : Nat) : Con := kzC ((b : Int), (b : Int)) [(54784, some ((b : Int) + 1, 7)), (54784 + 66 + b, some (1, 999))]
def kzB (b : Nat) : Con := kzC ((b : Int), (b : Int)) [(54784, some (0, (b : Int)))]
set_option maxRecDepth 1000000 in
theorem kzA_0 : chkC [kc_11, kc_la, kc_93, kc_217] (mkT []) 3000 (kzA 0) = true := by decide +kernel
set_option maxRecDepth 1000000 in
theorem kzB_0 : chkC [kc_11, kc_la, kc_93, kc_217] (mkT []) 3000 (kzB 0) = true := by decide +kernel
set_option maxRecDepth 1000000 in
theorem kzA_1 : chkC [kc_11, kc_la, kc_93, kc_217] (mkT []) 3000 (kzA 1) = true := by decide +kernel
set_option maxRecDepth 1000000 in
theorem kzB_1 : chkC [kc_11, kc_la, kc_93, kc_217] (mkT []) 3000 (kzB 1) = true := by decide +kernel
set_option maxRecDepth 1000000 in
theorem kzA_2 : chkC [kc_11, kc_la, kc_93, kc_217] (mkT []) 3000 (kzA 2) = true := by decide +kernel
set_option maxRecDepth 1000000 in
theorem kzB_2 : chkC [kc_11, kc_la, kc_93, kc_217] (mkT []) 3000 (kzB 2) = true := by decide +kernel
set_option maxRecDepth 1000000 in
theorem kzA_3 : chkC [kc_11, kc_la, kc_93, kc_217] (mkT []) 3000 (kzA 3) = true := by decide +kernel
set_option maxRecDepth 1000000 in
theorem kzB_3 : chkC [kc_11, kc_la, kc_93, kc_217] (mkT []) 3000 (kzB 3) = true := by decide +kernel
set_option maxRecDepth 1000000 in
theorem kzA_4 : chkC [kc_11, kc_la, kc_93, kc_217] (mkT []) 3000 (kzA 4) = true := by decide +kernel
set_option maxRecDepth 1000000 in
theorem kzB_4 : chkC [kc_11, kc_la, kc_93, kc_217] (mkT []) 3000 (kzB 4) = true := by decide +kernel
set_option maxRecDepth 1000000 in
theorem kzA_5 : chkC [kc_11, kc_la, kc_93, kc_217] (mkT []) 3000 (kzA 5) = true := by decide +kernel
set_option maxRecDepth 1000000 in
theorem kzB_5 : chkC [kc_11, kc_la, kc_93, kc_217] (mkT []) 3000 (kzB 5) = true := by decide +kernel
set_option maxRecDepth 1000000 in
theorem kzA_6 : chkC [kc_11, kc_la, kc_93, kc_217] (mkT []) 3000 (kzA 6) = true := by decide +kernel
set_option maxRecDepth 1000000 in
theorem kzB_6 : chkC [kc_11, kc_la, kc_93, kc_217] (mkT []) 3000 (kzB 6) = true := by decide +kernel
set_option maxRecDepth 1000000 in
theorem kzL : chkC [kc_11, kc_la, kc_93, kc_217] (mkT []) 3000 (kzC (-2147483648, -1) []) = true := by decide +kernel
set_option maxRecDepth 1000000 in
theorem kzU : chkC [kc_11, kc_la, kc_93, kc_217] (mkT []) 3000 (kzC (7, 2147483647) []) = true := by decide +kernel
