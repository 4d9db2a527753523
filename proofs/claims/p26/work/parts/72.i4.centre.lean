/-! ===== centre ===== -/
def kc_la : Con := (152, [(2, none, 213, 0, 1), (0, (some (0, 127)), 0, 0, 0)], [], [], [], Wh, [(none, (List.range 7).map (fun i => (55296 + i, .inl (some (0, 127127)))), [], [(120832, ([], 8)), (121088, ([], 64))])])
theorem ko_la {z : Int → Int} (hz : zOK z) : conOK z kc_la := by
  intro avs V1 V2 h g h1 h2 hB hg hf hr
  obtain ⟨w, ws, x, xs, rfl, rfl, k1, k2⟩ := args1 h1
  obtain ⟨w2, ws2, x2, xs2, rfl, rfl, k3, k4⟩ := args1 k2
  obtain ⟨rfl, rfl⟩ := args0 k4
  obtain ⟨e2, e3⟩ := argI k3
  have hb : 0 ≤ x2 ∧ x2 ≤ 127 := e3 (0, 127) rfl
  rw [argR k1, e2]
  obtain ⟨h', q1, q2, q3, q4⟩ := laD hz hB hg (s := x2.toNat) (by omega)
  rw [show ((x2.toNat : Nat) : Int) = x2 from by omega] at q1
  refine ⟨_, h', g, q1, q2.1, q2.2, hg, _, List.mem_cons_self, 0, trivial, fun q hq => ?_, (fun q hq => by cases hq), fun q hq => ?_⟩
  · obtain ⟨i, hi, rfl⟩ := List.mem_map.mp hq
    have hi := List.mem_range.mp hi
    have e : cel h' (55296 + i) = h' 216 (i : Int) := by
      unfold cel
      rw [show (55296 + i) / 256 = 216 from by omega, show (55296 + i) % 256 = i from by omega]
      rfl
    refine ⟨⟨by simp only; omega, ?_⟩, ?_⟩
    · show rdk h' (((55296 + i) / 256 : Nat) : Int) (((55296 + i) % 256 : Nat) : Int) = true
      rw [show (55296 + i) / 256 = 216 from by omega, show (55296 + i) % 256 = i from by omega]
      exact rd_fl (q3.1 (i : Int) (by omega) (by omega))
    · show bnd (some (0, 127127)) (cel h' (55296 + i))
      rw [e]
      intro q hq
      cases hq
      exact q4.2 (i : Int) (by omega) (by omega)
  · rcases List.mem_cons.mp hq with rfl | hq
    · exact ⟨by decide, fun j (j0 : (0 : Int) ≤ j) (j1 : j < 0 + 8) => q3.1 j j0 (by omega)⟩
    rcases List.mem_cons.mp hq with rfl | hq
    · exact ⟨by decide, fun j (j0 : (0 : Int) ≤ j) (j1 : j < 0 + 64) => q3.2 j j0 (by omega)⟩
    cases hq
def kc_ce : Con := (171, [(2, none, 213, 0, 1), (0, (some ((-2147483648), 2147483647)), 0, 0, 0), (0, (some ((-2147483648), 2147483647)), 0, 0, 0), (0, (some ((-2147483648), 2147483647)), 0, 0, 0)], [], [], [], [(213, 9, 14), (216, 0, 7), (217, 0, 63), (218, 0, 31), (219, 0, 31), (220, 0, 63), (221, 0, 63)], [((some (1, none)), [], [], [])])
def kzC (iv : IV) (pre : List (Nat × Option IV)) : Con := (171, [(2, none, 213, 0, 1), (0, some iv, 0, 0, 0), (0, (some ((-2147483648), 2147483647)), 0, 0, 0), (0, (some ((-2147483648), 2147483647)), 0, 0, 0)], pre, [], [], kc_ce.2.2.2.2.2.1, [((some (1, none)), [], [], [])])
def kzA (b : Nat) : Con := kzC ((b : Int), (b : Int)) [(54784, some ((b : Int) + 1, 7)), (54784 + 66 + b, some (1, 999))]
def kzB (b : Nat) : Con := kzC ((b : Int), (b : Int)) [(54784, some (0, (b : Int)))]
set_option maxRecDepth 1000000 in
theorem kzA_0 : chkC [kc_11, kc_la, kc_93, kc_217] (mkT []) 3000 (kzA 0) = true := by decide +kernel
set_option maxRecDepth 1000000 in
theorem kzB_0 : chkC [kc_11, kc_la, kc_93, kc_217] (mkT []) 3000 (kzB 0) = true := by decide +kernel
set_option maxRecDepth 1000000 in
theorem kzA_1 : chkC [kc_11, kc_la, kc_93, kc_217] (mkT []) 3000 (kzA 1) = true := by decide +kernel
set_option maxRecDepth 1000000 in
theorem kzB_1 : chkC [kc_11, kc_la, kc_93, kc_217] (mkT []) 3000 (kzB 1) = true := by decide +kernel
set_option maxRecDepth 1000000 in
theorem kzA_2 : chkC [kc_11, kc_la, kc_93, kc_217] (mkT []) 3000 (kzA 2) = true := by decide +kernel
set_option maxRecDepth 1000000 in
theorem kzB_2 : chkC [kc_11, kc_la, kc_93, kc_217] (mkT []) 3000 (kzB 2) = true := by decide +kernel
set_option maxRecDepth 1000000 in
theorem kzA_3 : chkC [kc_11, kc_la, kc_93, kc_217] (mkT []) 3000 (kzA 3) = true := by decide +kernel
set_option maxRecDepth 1000000 in
theorem kzB_3 : chkC [kc_11, kc_la, kc_93, kc_217] (mkT []) 3000 (kzB 3) = true := by decide +kernel
set_option maxRecDepth 1000000 in
theorem kzA_4 : chkC [kc_11, kc_la, kc_93, kc_217] (mkT []) 3000 (kzA 4) = true := by decide +kernel
set_option maxRecDepth 1000000 in
theorem kzB_4 : chkC [kc_11, kc_la, kc_93, kc_217] (mkT []) 3000 (kzB 4) = true := by decide +kernel
set_option maxRecDepth 1000000 in
theorem kzA_5 : chkC [kc_11, kc_la, kc_93, kc_217] (mkT []) 3000 (kzA 5) = true := by decide +kernel
set_option maxRecDepth 1000000 in
theorem kzB_5 : chkC [kc_11, kc_la, kc_93, kc_217] (mkT []) 3000 (kzB 5) = true := by decide +kernel
set_option maxRecDepth 1000000 in
theorem kzA_6 : chkC [kc_11, kc_la, kc_93, kc_217] (mkT []) 3000 (kzA 6) = true := by decide +kernel
set_option maxRecDepth 1000000 in
theorem kzB_6 : chkC [kc_11, kc_la, kc_93, kc_217] (mkT []) 3000 (kzB 6) = true := by decide +kernel
set_option maxRecDepth 1000000 in
theorem kzL : chkC [kc_11, kc_la, kc_93, kc_217] (mkT []) 3000 (kzC (-2147483648, -1) []) = true := by decide +kernel
set_option maxRecDepth 1000000 in
theorem kzU : chkC [kc_11, kc_la, kc_93, kc_217] (mkT []) 3000 (kzC (7, 2147483647) []) = true := by decide +kernel
theorem ki_ce {z : Int → Int} (hz : zOK z) : conI RF z kc_ce := by
  intro avs V1 V2 h g h1 h2 hB hR hg hf hr
  obtain ⟨w, ws, x, xs, rfl, rfl, k1, k2⟩ := args1 h1
  obtain ⟨w2, ws2, x2, xs2, rfl, rfl, k3, k4⟩ := args1 k2
  obtain ⟨e2, e3⟩ := argI k3
  have hb : -2147483648 ≤ x2 ∧ x2 ≤ 2147483647 := e3 (-2147483648, 2147483647) rfl
  subst e2
  have go : ∀ (iv : IV) (pre : List (Nat × Option IV)) (V : List Int), chkC [kc_11, kc_la, kc_93, kc_217] (mkT []) 3000 (kzC iv pre) = true → iv.1 ≤ x2 → x2 ≤ iv.2 → preOK h pre V → ∃ v h' g', CALLD z kc_ce.1 (w :: .inl x2 :: ws2) h g = some (v, h', g') ∧ BI h' ∧ RF h' ∧ FR kc_ce.2.2.2.2.2.1 h h' ∧ gInv g' ∧ ∃ a ∈ kc_ce.2.2.2.2.2.2, altOK a ((x :: x2 :: xs2) ++ V2) v h' := by
    intro iv pre V hk i1 i2 hp
    have hc := chk_ok hz (K := [kc_11, kc_la, kc_93, kc_217]) (List.forall_mem_cons.mpr ⟨ko_11 hz, List.forall_mem_cons.mpr ⟨ko_la hz, List.forall_mem_cons.mpr ⟨ko_93 hz, List.forall_mem_cons.mpr ⟨ko_217 hz, fun _ h => absurd h List.not_mem_nil⟩⟩⟩⟩) hk
    obtain ⟨v, h', g', r1, r2, r3, r4, a, ha, x', x1, -⟩ := hc (w :: .inl x2 :: ws2) (x :: x2 :: xs2) V h g ⟨k1, ⟨rfl, rfl, fun q hq => by cases hq; exact ⟨i1, i2⟩⟩, k4⟩ hp hB hg (fun f hf => by cases hf) (fun q hq => by cases hq)
    rcases List.mem_cons.mp ha with rfl | ha
    · exact ⟨v, h', g', r1, r2, RF_fr (W := kc_ce.2.2.2.2.2.1) (by decide +kernel) r3 hR, r3, r4, _, List.mem_cons_self, x', x1, (fun q hq => by cases hq), (fun q hq => by cases hq), (fun q hq => by cases hq)⟩
    · cases ha
  have hcb : (0 : Int) ≤ h 214 0 ∧ h 214 0 ≤ 7 := hB 214 (by decide) (0, 0, 0, 7) (by decide +kernel) 0 (by decide) (by decide)
  have c0 : celD h 54784 ∧ cel h 54784 = h 214 0 := ⟨(celDG (k := 0) (by decide)).1, (celG (k := 0) (by decide)).1⟩
  by_cases hl : x2 < 0
  · exact go (-2147483648, -1) [] [] kzL (by simp only; omega) (by simp only; omega) trivial
  by_cases hu : 6 < x2
  · exact go (7, 2147483647) [] [] kzU (by simp only; omega) (by simp only; omega) trivial
  obtain ⟨b, hbx⟩ : ∃ b : Nat, x2 = (b : Int) := ⟨x2.toNat, by omega⟩
  have hb7 : b < 7 := by omega
  have two : chkC [kc_11, kc_la, kc_93, kc_217] (mkT []) 3000 (kzA b) = true ∧ chkC [kc_11, kc_la, kc_93, kc_217] (mkT []) 3000 (kzB b) = true := by
    rcases (show b = 0 ∨ b = 1 ∨ b = 2 ∨ b = 3 ∨ b = 4 ∨ b = 5 ∨ b = 6 from by omega) with rfl | rfl | rfl | rfl | rfl | rfl | rfl
    · exact ⟨kzA_0, kzB_0⟩
    · exact ⟨kzA_1, kzB_1⟩
    · exact ⟨kzA_2, kzB_2⟩
    · exact ⟨kzA_3, kzB_3⟩
    · exact ⟨kzA_4, kzB_4⟩
    · exact ⟨kzA_5, kzB_5⟩
    · exact ⟨kzA_6, kzB_6⟩
  by_cases hc : (b : Int) < h 214 0
  · have hw : (0 : Int) ≤ h 214 (66 + (b : Int)) ∧ h 214 (66 + (b : Int)) ≤ 999 := hB 214 (by decide) (66, 73, 0, 999) (by decide +kernel) (66 + (b : Int)) (by simp only; omega) (by simp only; omega)
    have hw1 := (hR.1 214 (Or.inl rfl) b hb7 hc).2
    have e6 : cel h (54784 + 66 + b) = h 214 (66 + (b : Int)) := by
      rw [Nat.add_assoc, (celG (by omega)).1, show ((66 + b : Nat) : Int) = 66 + (b : Int) from by omega]
    have d6 : celD h (54784 + 66 + b) := by
      rw [Nat.add_assoc]
      exact (celDG (by omega)).1
    exact go ((b : Int), (b : Int)) _ [h 214 0, h 214 (66 + (b : Int))] two.1 (by simp only; omega) (by simp only; omega) ⟨⟨c0.1, c0.2, fun q hq => by cases hq; exact ⟨by simp only; omega, by simp only; omega⟩⟩, ⟨d6, e6, fun q hq => by cases hq; exact ⟨by simp only; omega, by simp only; omega⟩⟩, trivial⟩
  · exact go ((b : Int), (b : Int)) _ [h 214 0] two.2 (by simp only; omega) (by simp only; omega) ⟨⟨c0.1, c0.2, fun q hq => by cases hq; exact ⟨by simp only; omega, by simp only; omega⟩⟩, trivial⟩
