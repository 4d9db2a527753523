/-! ===== what keeps RF: who calls box; spot, image, back ===== -/
set_option maxRecDepth 1000000 in
theorem kj_241 : chkCI [kc_101, kc_17, kc_26, kc_28] (mkT kt_241) 3000 kc_241 = true := by decide +kernel
theorem ki_241 {z : Int → Int} (hz : zOK z) : conI RF z kc_241 := chkI_ok hz (K := [kc_101, kc_17, kc_26, kc_28]) (List.forall_mem_cons.mpr ⟨con_lift (ko_101 hz) (by decide +kernel), List.forall_mem_cons.mpr ⟨ki_17 hz, List.forall_mem_cons.mpr ⟨con_lift (ko_26 hz) (by decide +kernel), List.forall_mem_cons.mpr ⟨ki_28 hz, fun _ h => absurd h List.not_mem_nil⟩⟩⟩⟩) kj_241
set_option maxRecDepth 1000000 in
theorem kj_242 : chkCI [kc_240, kc_238, kc_241] (mkT kt_242) 3000 kc_242 = true := by decide +kernel
theorem ki_242 {z : Int → Int} (hz : zOK z) : conI RF z kc_242 := chkI_ok hz (K := [kc_240, kc_238, kc_241]) (List.forall_mem_cons.mpr ⟨con_lift (ko_240 hz) (by decide +kernel), List.forall_mem_cons.mpr ⟨con_lift (ko_238 hz) (by decide +kernel), List.forall_mem_cons.mpr ⟨ki_241 hz, fun _ h => absurd h List.not_mem_nil⟩⟩⟩) kj_242
set_option maxRecDepth 1000000 in
theorem kj_243 : chkCI [kc_242] (mkT kt_243) 3000 kc_243 = true := by decide +kernel
theorem ki_243 {z : Int → Int} (hz : zOK z) : conI RF z kc_243 := chkI_ok hz (K := [kc_242]) (List.forall_mem_cons.mpr ⟨ki_242 hz, fun _ h => absurd h List.not_mem_nil⟩) kj_243
set_option maxRecDepth 1000000 in
theorem kj_256 : chkCI [kc_17] (mkT kt_256) 3000 kc_256 = true := by decide +kernel
theorem ki_256 {z : Int → Int} (hz : zOK z) : conI RF z kc_256 := chkI_ok hz (K := [kc_17]) (List.forall_mem_cons.mpr ⟨ki_17 hz, fun _ h => absurd h List.not_mem_nil⟩) kj_256
def Ws (c : Nat) : WrT := [(213, 9, 14), (216, 0, 7), (217, 0, 63), (218, 0, 31), (219, 0, 31), (220, 0, 62), (221, 0, 62)] ++ Wb c
def kts (c : Nat) : List (Nat × Nat × LpT) := [(127, 115, ([(7, 0, (some (0, 6)))], [], [54784 + 34 + c], [], [], [], ([((0, 7), (-1))], 7), [])), (188, 53, ([(4, 0, none), (5, 0, (some ((-1), 63))), (6, 0, (some (0, 64)))], [], [], [], [], [], ([((0, 6), (-1))], 65), []))]
def ks (c : Nat) : Con := (188, [(2, none, 213, 0, 1), (0, (some ((-2147483648), 2147483647)), 0, 0, 0), (0, (some ((-2147483648), 2147483647)), 0, 0, 0), (0, (some ((-2147483648), 2147483647)), 0, 0, 0)], [(54784, some ((c : Int), (c : Int)))], [], [], Ws c, [(some (0, none), [(54784, .inl (some ((c : Int), (c : Int))))], [], [])])
set_option maxRecDepth 1000000 in
theorem kks_0 : chkC [kc_11, kc_14, kc_15, kc_16, kc_98] (mkT (kts 0)) 3000 (ks 0) = true := by decide +kernel
set_option maxRecDepth 1000000 in
theorem kks_1 : chkC [kc_11, kc_14, kc_15, kc_16, kc_98] (mkT (kts 1)) 3000 (ks 1) = true := by decide +kernel
set_option maxRecDepth 1000000 in
theorem kks_2 : chkC [kc_11, kc_14, kc_15, kc_16, kc_98] (mkT (kts 2)) 3000 (ks 2) = true := by decide +kernel
set_option maxRecDepth 1000000 in
theorem kks_3 : chkC [kc_11, kc_14, kc_15, kc_16, kc_98] (mkT (kts 3)) 3000 (ks 3) = true := by decide +kernel
set_option maxRecDepth 1000000 in
theorem kks_4 : chkC [kc_11, kc_14, kc_15, kc_16, kc_98] (mkT (kts 4)) 3000 (ks 4) = true := by decide +kernel
set_option maxRecDepth 1000000 in
theorem kks_5 : chkC [kc_11, kc_14, kc_15, kc_16, kc_98] (mkT (kts 5)) 3000 (ks 5) = true := by decide +kernel
set_option maxRecDepth 1000000 in
theorem kks_6 : chkC [kc_11, kc_14, kc_15, kc_16, kc_98] (mkT (kts 6)) 3000 (ks 6) = true := by decide +kernel
set_option maxRecDepth 1000000 in
theorem kks_7 : chkC [kc_11, kc_14, kc_15, kc_16, kc_98] (mkT (kts 7)) 3000 (ks 7) = true := by decide +kernel
theorem ks_ok {z : Int → Int} (hz : zOK z) : ∀ c : Nat, c < 8 → conOK z (ks c) := by
  intro c hc
  refine chk_ok hz (K := [kc_11, kc_14, kc_15, kc_16, kc_98]) (List.forall_mem_cons.mpr ⟨ko_11 hz, List.forall_mem_cons.mpr ⟨ko_14 hz, List.forall_mem_cons.mpr ⟨ko_15 hz, List.forall_mem_cons.mpr ⟨ko_16 hz, List.forall_mem_cons.mpr ⟨ko_98 hz, fun _ h => absurd h List.not_mem_nil⟩⟩⟩⟩⟩) (T := mkT (kts c)) (f := 3000) ?_
  rcases (show c = 0 ∨ c = 1 ∨ c = 2 ∨ c = 3 ∨ c = 4 ∨ c = 5 ∨ c = 6 ∨ c = 7 from by omega) with rfl | rfl | rfl | rfl | rfl | rfl | rfl | rfl
  · exact kks_0
  · exact kks_1
  · exact kks_2
  · exact kks_3
  · exact kks_4
  · exact kks_5
  · exact kks_6
  · exact kks_7
theorem bxW_s : ∀ c : Fin 8, bxW c.val (Ws c.val) = true := by decide +kernel
theorem subW_s : ∀ c : Fin 8, subW (Ws c.val) kc_208.2.2.2.2.2.1 = true := by decide +kernel
theorem celG {h : PH} {k : Nat} (hk : k < 256) : cel h (54784 + k) = h 214 (k : Int) ∧ cel h (55040 + k) = h 215 (k : Int) := by
  unfold cel
  rw [show (54784 + k) / 256 = 214 from by omega, show (54784 + k) % 256 = k from by omega, show (55040 + k) / 256 = 215 from by omega, show (55040 + k) % 256 = k from by omega]
  exact ⟨rfl, rfl⟩
theorem ki_208 {z : Int → Int} (hz : zOK z) : conI RF z kc_208 := by
  intro avs V1 V2 h g h1 h2 hB hR hg hf hr
  have hcb : (0 : Int) ≤ h 214 0 ∧ h 214 0 ≤ 7 := hB 214 (by decide) (0, 0, 0, 7) (by decide +kernel) 0 (by decide) (by decide)
  have hc : h 214 0 = (((h 214 0).toNat : Nat) : Int) := by omega
  have hc8 : (h 214 0).toNat < 8 := by omega
  revert hc hc8
  generalize (h 214 0).toNat = c
  intro hc hc8
  obtain ⟨v, h', g', r1, r2, r3, r4, a, ha, haok⟩ := ks_ok hz c hc8 avs V1 [(c : Int)] h g h1 (came_pre hc) hB hg (fun f hf => by cases hf) (fun q hq => by cases hq)
  obtain ⟨x, x1, x2, -, -⟩ := haok
  rcases List.mem_cons.mp ha with rfl | ha
  · have p0 : bnd (some ((c : Int), (c : Int))) (cel h' (54784 + 0)) := (x2 _ List.mem_cons_self).2
    rw [(celG (by decide)).1] at p0
    have p0 := p0 _ rfl
    simp only at p0
    exact ⟨v, h', g', r1, r2, ⟨bx_RR hc8 (bxW_s ⟨c, hc8⟩) r3 hR.1 hc (Or.inl (show h' 214 ((0 : Nat) : Int) = (c : Int) from by omega)), FlW.fr r3 hR.2⟩, FR_sub r3 (subW_s ⟨c, hc8⟩), r4, _, List.mem_cons_self, x, x1, (fun q hq => by cases hq), (fun q hq => by cases hq), (fun q hq => by cases hq)⟩
  · cases ha
/-! image, back -/
def p15 (i : Nat) : Nat := bif Nat.ble i 0 then 0 else bif Nat.ble i 7 then 57 + i else 58 + i
def iv15 (i : Nat) : IV := bif Nat.ble i 0 then (0, 7) else bif Nat.ble i 7 then (0, 4) else (0, 999)
theorem pre_map {h : PH} {f : Nat → Nat × Option IV} : ∀ L : List Nat, (∀ i ∈ L, celD h (f i).1 ∧ bnd (f i).2 (cel h (f i).1)) → preOK h (L.map f) (L.map (fun i => cel h (f i).1))
  | [], _ => trivial
  | i :: L, k => ⟨⟨(k i List.mem_cons_self).1, rfl, (k i List.mem_cons_self).2⟩, pre_map L (fun j hj => k j (List.mem_cons_of_mem _ hj))⟩
def f15 (i : Nat) : Nat × Option IV := (54784 + p15 i, some (iv15 i))
def f30 (i : Nat) : Nat × Option IV := bif Nat.ble i 14 then (54784 + p15 i, some (iv15 i)) else (55040 + p15 (i - 15), some (iv15 (i - 15)))
def km : Con := (207, [(2, none, 213, 0, 1)], (List.range 15).map f15, [], [], [(213, 2, 2), (215, 0, 73)], [(some (0, some (0, 7)), (List.range 15).map (fun i => (55040 + p15 i, .inr ([((3, 1 + i), 1)], 0))), [], [])])
def kk : Con := (208, [(2, none, 213, 0, 1)], (List.range 30).map f30, [], [], [(214, 0, 73)], [(some (0, some (-100, -1)), (List.range 15).map (fun i => (54784 + p15 i, .inr ([((3, 1 + i), 1)], 0))), [], []), (some (0, some (0, 7)), (List.range 15).map (fun i => (54784 + p15 i, .inr ([((3, 16 + i), 1)], 0))), [], [])])
set_option maxRecDepth 1000000 in
theorem km_ok : chkC [] (mkT []) 3000 km = true := by decide +kernel
set_option maxRecDepth 1000000 in
theorem kk_ok : chkC [] (mkT []) 3000 kk = true := by decide +kernel
theorem p15_t : ∀ i : Fin 15, p15 i.val < 74 ∧ (∃ e ∈ pbA 214, e.1 ≤ p15 i.val ∧ p15 i.val ≤ e.2.1 ∧ e.2.2 = iv15 i.val) ∧ (∃ e ∈ pbA 215, e.1 ≤ p15 i.val ∧ p15 i.val ≤ e.2.1 ∧ e.2.2 = iv15 i.val) := by decide +kernel
theorem g15 {h : PH} (hB : BI h) {i : Nat} (hi : i < 15) : (iv15 i).1 ≤ h 214 (p15 i : Int) ∧ h 214 (p15 i : Int) ≤ (iv15 i).2 ∧ (iv15 i).1 ≤ h 215 (p15 i : Int) ∧ h 215 (p15 i : Int) ≤ (iv15 i).2 := by
  obtain ⟨h0, ⟨e, e1, e2, e3, e4⟩, ⟨f, f1, f2, f3, f4⟩⟩ := p15_t ⟨i, hi⟩
  have k := hB 214 (by decide) e e1 (p15 i : Int) (by simp only at e2; omega) (by simp only at e3; omega)
  have k2 := hB 215 (by decide) f f1 (p15 i : Int) (by simp only at f2; omega) (by simp only at f3; omega)
  rw [e4] at k
  rw [f4] at k2
  exact ⟨k.1, k.2, k2.1, k2.2⟩
theorem celDG {h : PH} {k : Nat} (hk : k < 256) : celD h (54784 + k) ∧ celD h (55040 + k) := by
  unfold celD
  rw [show (54784 + k) / 256 = 214 from by omega, show (54784 + k) % 256 = k from by omega, show (55040 + k) / 256 = 215 from by omega, show (55040 + k) % 256 = k from by omega]
  exact ⟨⟨by omega, rd_ns (by unfold scrt; rfl)⟩, ⟨by omega, rd_ns (by unfold scrt; rfl)⟩⟩
theorem v15 {x : Int} {f : Nat → Int} : ∀ i : Nat, i < 15 → valF (x :: (List.range 15).map f) (1 + i) = f i := by
  intro i hi
  rcases (show i = 0 ∨ i = 1 ∨ i = 2 ∨ i = 3 ∨ i = 4 ∨ i = 5 ∨ i = 6 ∨ i = 7 ∨ i = 8 ∨ i = 9 ∨ i = 10 ∨ i = 11 ∨ i = 12 ∨ i = 13 ∨ i = 14 from by omega) with rfl | rfl | rfl | rfl | rfl | rfl | rfl | rfl | rfl | rfl | rfl | rfl | rfl | rfl | rfl
  all_goals rfl
theorem v30 {x : Int} {f : Nat → Int} : ∀ i : Nat, i < 15 → valF (x :: (List.range 30).map f) (1 + i) = f i ∧ valF (x :: (List.range 30).map f) (16 + i) = f (15 + i) := by
  intro i hi
  rcases (show i = 0 ∨ i = 1 ∨ i = 2 ∨ i = 3 ∨ i = 4 ∨ i = 5 ∨ i = 6 ∨ i = 7 ∨ i = 8 ∨ i = 9 ∨ i = 10 ∨ i = 11 ∨ i = 12 ∨ i = 13 ∨ i = 14 from by omega) with rfl | rfl | rfl | rfl | rfl | rfl | rfl | rfl | rfl | rfl | rfl | rfl | rfl | rfl | rfl
  all_goals exact ⟨rfl, rfl⟩
theorem lnV {V : List Int} {h : PH} {i : Nat} : lnC [] h n0 (valF V) 0 ([((3, i), 1)], 0) = valF V i := by
  show (0 : Int) + 1 * valF V i = valF V i
  omega
/-- what RR asks of one of the two rows -/
def R1 (h : PH) (G : Int) : Prop := ∀ a : Nat, a < 7 → (a : Int) < h G 0 → 1 ≤ h G (58 + (a : Int)) ∧ 1 ≤ h G (66 + (a : Int))
theorem R1_cp {h h' : PH} {G G' : Int} (k : ∀ i : Nat, i < 15 → h' G' (p15 i : Int) = h G (p15 i : Int)) (hR : R1 h G) : R1 h' G' := by
  intro a ha hlt
  have e0 : h' G' 0 = h G 0 := k 0 (by decide)
  have pa : ∀ a : Fin 7, p15 (1 + a.val) = 58 + a.val ∧ p15 (8 + a.val) = 66 + a.val := by decide +kernel
  have e1 := k (1 + a) (by omega)
  have e2 := k (8 + a) (by omega)
  rw [(pa ⟨a, ha⟩).1] at e1
  rw [(pa ⟨a, ha⟩).2] at e2
  rw [e0] at hlt
  have := hR a ha hlt
  have c1 : ((58 + a : Nat) : Int) = 58 + (a : Int) := by omega
  have c2 : ((66 + a : Nat) : Int) = 66 + (a : Int) := by omega
  rw [c1] at e1
  rw [c2] at e2
  rw [e1, e2]
  exact this
theorem ki_260 {z : Int → Int} (hz : zOK z) : conI RF z kc_260 := by
  intro avs V1 V2 h g h1 h2 hB hR hg hf hr
  have hv1 : ∃ x, V1 = [x] := by
    obtain ⟨w, ws, x, xs, q1, q2, k1, k2⟩ := args1 h1
    obtain ⟨q3, q4⟩ := args0 k2
    exact ⟨x, by rw [q2, q4]⟩
  obtain ⟨x0, rfl⟩ := hv1
  have hpre := pre_map (h := h) (f := f15) (List.range 15) (fun i hi => by
    have hi := List.mem_range.mp hi
    have hp := (p15_t ⟨i, hi⟩).1
    have hp : p15 i < 74 := hp
    refine ⟨(celDG (by omega)).1, fun q hq => ?_⟩
    cases hq
    have k := g15 hB hi
    have e := (celG (h := h) (by omega : p15 i < 256)).1
    show (iv15 i).1 ≤ cel h (54784 + p15 i) ∧ cel h (54784 + p15 i) ≤ (iv15 i).2
    rw [e]
    exact ⟨k.1, k.2.1⟩)
  obtain ⟨v, h', g', r1, r2, r3, r4, a, ha, haok⟩ := chk_ok hz (K := []) (fun _ h => absurd h List.not_mem_nil) km_ok avs [x0] _ h g h1 hpre hB hg (fun f hf => by cases hf) (fun q hq => by cases hq)
  obtain ⟨x, x1, x2, -, -⟩ := haok
  rcases List.mem_cons.mp ha with rfl | ha
  · have hcp : ∀ i : Nat, i < 15 → h' 215 (p15 i : Int) = h 214 (p15 i : Int) := by
      intro i hi
      have hp := (p15_t ⟨i, hi⟩).1
      have hp : p15 i < 74 := hp
      have k := (x2 _ (List.mem_map.mpr ⟨i, List.mem_range.mpr hi, rfl⟩)).2
      have k : cel h' (55040 + p15 i) = lnC [] h' n0 (valF (x0 :: (List.range 15).map (fun i => cel h (f15 i).1))) 0 ([((3, 1 + i), 1)], 0) := k
      rw [lnV, v15 i hi, (celG (by omega)).2] at k
      rw [k]
      exact (celG (by omega)).1
    have h214 : ∀ k : Int, h' 214 k = h 214 k := by
      intro k
      refine r3.1 214 k (by decide) (by decide) ?_
      rintro ⟨w, w1, w2, w3, w4⟩
      rcases List.mem_cons.mp w1 with rfl | w1
      · simp only at w2; omega
      rcases List.mem_cons.mp w1 with rfl | w1
      · simp only at w2; omega
      cases w1
    refine ⟨v, h', g', r1, r2, ⟨fun G hG => ?_, FlW.fr r3 hR.2⟩, r3, r4, _, List.mem_cons_self, x, x1, (fun q hq => by cases hq), (fun q hq => by cases hq), (fun q hq => by cases hq)⟩
    rcases hG with rfl | rfl
    · exact R1_cp (G := 214) (fun i hi => h214 _) (hR.1 214 (Or.inl rfl))
    · exact R1_cp hcp (hR.1 214 (Or.inl rfl))
  · cases ha
theorem ki_264 {z : Int → Int} (hz : zOK z) : conI RF z kc_264 := by
  intro avs V1 V2 h g h1 h2 hB hR hg hf hr
  have hv1 : ∃ x, V1 = [x] := by
    obtain ⟨w, ws, x, xs, q1, q2, k1, k2⟩ := args1 h1
    obtain ⟨q3, q4⟩ := args0 k2
    exact ⟨x, by rw [q2, q4]⟩
  obtain ⟨x0, rfl⟩ := hv1
  have f30a : ∀ i : Fin 15, f30 i.val = (54784 + p15 i.val, some (iv15 i.val)) ∧ f30 (15 + i.val) = (55040 + p15 i.val, some (iv15 i.val)) := by decide +kernel
  have hpre := pre_map (h := h) (f := f30) (List.range 30) (fun i hi => by
    have hi := List.mem_range.mp hi
    by_cases hi15 : i < 15
    · have hp := (p15_t ⟨i, hi15⟩).1
      have hp : p15 i < 74 := hp
      have e9 : f30 i = (54784 + p15 i, some (iv15 i)) := (f30a ⟨i, hi15⟩).1
      rw [e9]
      refine ⟨(celDG (by omega)).1, fun q hq => ?_⟩
      cases hq
      have k := g15 hB hi15
      have e := (celG (h := h) (by omega : p15 i < 256)).1
      show (iv15 i).1 ≤ cel h (54784 + p15 i) ∧ cel h (54784 + p15 i) ≤ (iv15 i).2
      rw [e]
      exact ⟨k.1, k.2.1⟩
    · have hj : i - 15 < 15 := by omega
      have hp := (p15_t ⟨i - 15, hj⟩).1
      have hp : p15 (i - 15) < 74 := hp
      have e9 : f30 (15 + (i - 15)) = (55040 + p15 (i - 15), some (iv15 (i - 15))) := (f30a ⟨i - 15, hj⟩).2
      rw [show 15 + (i - 15) = i from by omega] at e9
      rw [e9]
      refine ⟨(celDG (by omega)).2, fun q hq => ?_⟩
      cases hq
      have k := g15 hB hj
      have e := (celG (h := h) (by omega : p15 (i - 15) < 256)).2
      show (iv15 (i - 15)).1 ≤ cel h (55040 + p15 (i - 15)) ∧ cel h (55040 + p15 (i - 15)) ≤ (iv15 (i - 15)).2
      rw [e]
      exact ⟨k.2.2.1, k.2.2.2⟩)
  obtain ⟨v, h', g', r1, r2, r3, r4, a, ha, haok⟩ := chk_ok hz (K := []) (fun _ h => absurd h List.not_mem_nil) kk_ok avs [x0] _ h g h1 hpre hB hg (fun f hf => by cases hf) (fun q hq => by cases hq)
  obtain ⟨x, x1, x2, -, -⟩ := haok
  have h215 : ∀ k : Int, h' 215 k = h 215 k := by
    intro k
    refine r3.1 215 k (by decide) (by decide) ?_
    rintro ⟨w, w1, w2, w3, w4⟩
    rcases List.mem_cons.mp w1 with rfl | w1
    · simp only at w2; omega
    cases w1
  have fin : ∀ iv : IV, -100 ≤ iv.1 → iv.2 ≤ 7 → retOK (some (0, some iv)) v x → ∃ a ∈ kc_264.2.2.2.2.2.2, altOK a ([x0] ++ V2) v h' := by
    intro iv i1 i2 hx
    match v, hx with
    | some (.inl y), ⟨y1, y2, y3⟩ =>
      have := y3 iv rfl
      exact ⟨_, List.mem_cons_self, x, ⟨rfl, y2, fun q hq => by cases hq; exact ⟨by simp only; omega, by simp only; omega⟩⟩, (fun q hq => by cases hq), (fun q hq => by cases hq), (fun q hq => by cases hq)⟩
    | some (.inr (.inl y)), ⟨y1, _⟩ => cases y1
    | none, hx => exact hx.elim
    | some (.inr (.inr _)), hx => exact hx.elim
  rcases List.mem_cons.mp ha with rfl | ha
  · have hcp : ∀ i : Nat, i < 15 → h' 214 (p15 i : Int) = h 214 (p15 i : Int) := by
      intro i hi
      have hp := (p15_t ⟨i, hi⟩).1
      have hp : p15 i < 74 := hp
      have k := (x2 _ (List.mem_map.mpr ⟨i, List.mem_range.mpr hi, rfl⟩)).2
      have k : cel h' (54784 + p15 i) = lnC [] h' n0 (valF (x0 :: (List.range 30).map (fun i => cel h (f30 i).1))) 0 ([((3, 1 + i), 1)], 0) := k
      have e9 : f30 i = (54784 + p15 i, some (iv15 i)) := (f30a ⟨i, hi⟩).1
      rw [lnV, (v30 i hi).1, (celG (by omega)).1, e9] at k
      rw [k]
      exact (celG (by omega)).1
    refine ⟨v, h', g', r1, r2, ⟨fun G hG => ?_, FlW.fr r3 hR.2⟩, r3, r4, fin _ (by simp only; omega) (by simp only; omega) x1⟩
    rcases hG with rfl | rfl
    · exact R1_cp hcp (hR.1 214 (Or.inl rfl))
    · exact R1_cp (G := 215) (fun i hi => h215 _) (hR.1 215 (Or.inr rfl))
  · rcases List.mem_cons.mp ha with rfl | ha
    · have hcp : ∀ i : Nat, i < 15 → h' 214 (p15 i : Int) = h 215 (p15 i : Int) := by
        intro i hi
        have hp := (p15_t ⟨i, hi⟩).1
        have hp : p15 i < 74 := hp
        have k := (x2 _ (List.mem_map.mpr ⟨i, List.mem_range.mpr hi, rfl⟩)).2
        have k : cel h' (54784 + p15 i) = lnC [] h' n0 (valF (x0 :: (List.range 30).map (fun i => cel h (f30 i).1))) 0 ([((3, 16 + i), 1)], 0) := k
        have e9 : f30 (15 + i) = (55040 + p15 i, some (iv15 i)) := (f30a ⟨i, hi⟩).2
        rw [lnV, (v30 i hi).2, (celG (by omega)).1, e9] at k
        rw [k]
        exact (celG (by omega)).2
      refine ⟨v, h', g', r1, r2, ⟨fun G hG => ?_, FlW.fr r3 hR.2⟩, r3, r4, fin _ (by simp only; omega) (by simp only; omega) x1⟩
      rcases hG with rfl | rfl
      · exact R1_cp hcp (hR.1 215 (Or.inr rfl))
      · exact R1_cp (G := 215) (fun i hi => h215 _) (hR.1 215 (Or.inr rfl))
    · cases ha
