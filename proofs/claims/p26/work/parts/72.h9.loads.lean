/-! ===== what keeps RF: box, spot, weigh, and who calls them ===== -/
theorem ki_28 {z : Int → Int} (hz : zOK z) : conI RF z kc_28 := chkI_ok hz (K := [kc_11]) (T := mkT kt_28) (f := 3000) (List.forall_mem_cons.mpr ⟨con_lift (ko_11 hz) (by decide +kernel), fun _ h => absurd h List.not_mem_nil⟩) (by decide +kernel)
def Wb (c : Nat) : WrT := bif Nat.blt 6 c then [] else [(214, 0, 0), (214, 2 + c, 2 + c), (214, 10 + c, 10 + c), (214, 18 + c, 18 + c), (214, 26 + c, 26 + c), (214, 34 + c, 34 + c), (214, 42 + c, 42 + c), (214, 50 + c, 50 + c), (214, 58 + c, 58 + c), (214, 66 + c, 66 + c)]
def LA (c : Nat) : AltT := (some (0, some (-100, -1)), [(54784, .inl (some ((c : Int), (c : Int))))], [], [])
def LB (c : Nat) : AltT := (some (0, some ((c : Int), (c : Int))), [(54784, .inl (some ((c : Int) + 1, (c : Int) + 1))), (54784 + 58 + c, .inl (some (1, 4))), (54784 + 66 + c, .inl (some (1, 999)))], [], [])
def kb (c : Nat) : Con := (124, [(2, none, 213, 0, 1), (0, (some ((-2147483648), 2147483647)), 0, 0, 0), (0, (some ((-2147483648), 2147483647)), 0, 0, 0), (0, (some ((-2147483648), 2147483647)), 0, 0, 0), (0, (some ((-2147483648), 2147483647)), 0, 0, 0), (0, (some ((-2147483648), 2147483647)), 0, 0, 0)], [(54784, some ((c : Int), (c : Int)))], [], [], Wb c, [LA c, LB c])
def ktb (c : Nat) : List (Nat × Nat × LpT) := [(127, 115, ([(7, 0, (some (0, 6)))], [], [54784 + 34 + c], [], [], [], ([((0, 7), (-1))], 7), []))]
set_option maxRecDepth 1000000 in
theorem kkb_0 : chkC [kc_11, kc_14, kc_15, kc_16] (mkT (ktb 0)) 3000 (kb 0) = true := by decide +kernel
set_option maxRecDepth 1000000 in
theorem kkb_1 : chkC [kc_11, kc_14, kc_15, kc_16] (mkT (ktb 1)) 3000 (kb 1) = true := by decide +kernel
set_option maxRecDepth 1000000 in
theorem kkb_2 : chkC [kc_11, kc_14, kc_15, kc_16] (mkT (ktb 2)) 3000 (kb 2) = true := by decide +kernel
set_option maxRecDepth 1000000 in
theorem kkb_3 : chkC [kc_11, kc_14, kc_15, kc_16] (mkT (ktb 3)) 3000 (kb 3) = true := by decide +kernel
set_option maxRecDepth 1000000 in
theorem kkb_4 : chkC [kc_11, kc_14, kc_15, kc_16] (mkT (ktb 4)) 3000 (kb 4) = true := by decide +kernel
set_option maxRecDepth 1000000 in
theorem kkb_5 : chkC [kc_11, kc_14, kc_15, kc_16] (mkT (ktb 5)) 3000 (kb 5) = true := by decide +kernel
set_option maxRecDepth 1000000 in
theorem kkb_6 : chkC [kc_11, kc_14, kc_15, kc_16] (mkT (ktb 6)) 3000 (kb 6) = true := by decide +kernel
set_option maxRecDepth 1000000 in
theorem kkb_7 : chkC [kc_11, kc_14, kc_15, kc_16] (mkT (ktb 7)) 3000 (kb 7) = true := by decide +kernel
theorem K17_ok {z : Int → Int} (hz : zOK z) : ∀ c ∈ [kc_11, kc_14, kc_15, kc_16], conOK z c := List.forall_mem_cons.mpr ⟨ko_11 hz, List.forall_mem_cons.mpr ⟨ko_14 hz, List.forall_mem_cons.mpr ⟨ko_15 hz, List.forall_mem_cons.mpr ⟨ko_16 hz, fun _ h => absurd h List.not_mem_nil⟩⟩⟩⟩
theorem kb_ok {z : Int → Int} (hz : zOK z) : ∀ c : Nat, c < 8 → conOK z (kb c) := by
  intro c hc
  refine chk_ok hz (K17_ok hz) (T := mkT (ktb c)) (f := 3000) ?_
  rcases (show c = 0 ∨ c = 1 ∨ c = 2 ∨ c = 3 ∨ c = 4 ∨ c = 5 ∨ c = 6 ∨ c = 7 from by omega) with rfl | rfl | rfl | rfl | rfl | rfl | rfl | rfl
  · exact kkb_0
  · exact kkb_1
  · exact kkb_2
  · exact kkb_3
  · exact kkb_4
  · exact kkb_5
  · exact kkb_6
  · exact kkb_7
def bxW (c : Nat) (W : WrT) : Bool := W.all (fun w => !Nat.beq w.1 215 && (!Nat.beq w.1 214 || (List.range c).all (fun a => (Nat.blt (58 + a) w.2.1 || Nat.blt w.2.2 (58 + a)) && (Nat.blt (66 + a) w.2.1 || Nat.blt w.2.2 (66 + a)))))
theorem bx_RR {c : Nat} {W : WrT} {h h' : PH} (hc7 : c < 8) (hW : bxW c W = true) (hF : FR W h h') (hR : RR h) (hc : h 214 0 = (c : Int)) (hx : h' 214 0 = (c : Int) ∨ (h' 214 0 = (c : Int) + 1 ∧ 1 ≤ h' 214 (58 + (c : Int)) ∧ 1 ≤ h' 214 (66 + (c : Int)))) : RR h' := by
  have k5 : ∀ k : Int, h' 215 k = h 215 k := by
    intro k
    refine hF.1 215 k (by decide) (by decide) ?_
    rintro ⟨w, w1, w2, w3, w4⟩
    have e := (Bool.and_eq_true_iff.mp (List.all_eq_true.mp hW w w1)).1
    rw [show w.1 = 215 from by omega] at e
    cases e
  have k4 : ∀ a : Nat, a < c → h' 214 (58 + (a : Int)) = h 214 (58 + (a : Int)) ∧ h' 214 (66 + (a : Int)) = h 214 (66 + (a : Int)) := by
    intro a ha
    have key : ∀ w ∈ W, w.1 = 214 → (58 + a < w.2.1 ∨ w.2.2 < 58 + a) ∧ (66 + a < w.2.1 ∨ w.2.2 < 66 + a) := by
      intro w w1 w2
      have e := (Bool.and_eq_true_iff.mp (List.all_eq_true.mp hW w w1)).2
      rw [w2] at e
      have e : ((List.range c).all (fun a => (Nat.blt (58 + a) w.2.1 || Nat.blt w.2.2 (58 + a)) && (Nat.blt (66 + a) w.2.1 || Nat.blt w.2.2 (66 + a)))) = true := e
      have e := Bool.and_eq_true_iff.mp (List.all_eq_true.mp e a (List.mem_range.mpr ha))
      have f : ∀ x y : Nat, Nat.blt x y = true → x < y := fun x y q => Nat.le_of_ble_eq_true q
      exact ⟨(Bool.or_eq_true_iff.mp e.1).imp (f _ _) (f _ _), (Bool.or_eq_true_iff.mp e.2).imp (f _ _) (f _ _)⟩
    constructor
    · refine hF.1 214 _ (by decide) (by decide) ?_
      rintro ⟨w, w1, w2, w3, w4⟩
      have := key w w1 (by omega)
      omega
    · refine hF.1 214 _ (by decide) (by decide) ?_
      rintro ⟨w, w1, w2, w3, w4⟩
      have := key w w1 (by omega)
      omega
  intro G hG a ha hlt
  rcases hG with rfl | rfl
  · by_cases hac : a < c
    · rw [(k4 a hac).1, (k4 a hac).2]
      exact hR 214 (Or.inl rfl) a ha (by omega)
    · rcases hx with hx | ⟨hx, x1, x2⟩
      · omega
      · have e : a = c := by omega
        rw [e]
        exact ⟨x1, x2⟩
  · rw [k5] at hlt
    rw [k5, k5]
    exact hR 215 (Or.inr rfl) a ha hlt
theorem bxW_b : ∀ c : Fin 8, bxW c.val (Wb c.val) = true := by decide +kernel
theorem subW_b : ∀ c : Fin 8, subW (Wb c.val) kc_17.2.2.2.2.2.1 = true := by decide +kernel
theorem came_pre {h : PH} {c : Nat} (hc : h 214 0 = (c : Int)) : preOK h [(54784, some ((c : Int), (c : Int)))] [(c : Int)] := by
  have e1 : (54784 : Nat) < 65536 := by decide
  have e2 : rdk h ((54784 / 256 : Nat) : Int) ((54784 % 256 : Nat) : Int) = true := rd_ns (by decide +kernel)
  have e3 : cel h 54784 = (c : Int) := hc
  exact ⟨⟨⟨e1, e2⟩, e3, fun q hq => by cases hq; exact ⟨Int.le_refl _, Int.le_refl _⟩⟩, trivial⟩
theorem FR_sub {W W' : WrT} {h h' : PH} (hF : FR W h h') (hs : subW W W' = true) : FR W' h h' := ⟨fun a k h0 h1 hn => hF.1 a k h0 h1 (fun q => hn (subW_ok hs q)), hF.2⟩
theorem ki_17 {z : Int → Int} (hz : zOK z) : conI RF z kc_17 := by
  intro avs V1 V2 h g h1 h2 hB hR hg hf hr
  have hcb : (0 : Int) ≤ h 214 0 ∧ h 214 0 ≤ 7 := hB 214 (by decide) (0, 0, 0, 7) (by decide +kernel) 0 (by decide) (by decide)
  have hc : h 214 0 = (((h 214 0).toNat : Nat) : Int) := by omega
  have hc8 : (h 214 0).toNat < 8 := by omega
  revert hc hc8
  generalize (h 214 0).toNat = c
  intro hc hc8
  obtain ⟨v, h', g', r1, r2, r3, r4, a, ha, haok⟩ := kb_ok hz c hc8 avs V1 [(c : Int)] h g h1 (came_pre hc) hB hg (fun f hf => by cases hf) (fun q hq => by cases hq)
  obtain ⟨x, x1, x2, -, -⟩ := haok
  have cel0 : ∀ k : Nat, k < 256 → cel h' (54784 + k) = h' 214 (k : Int) := by
    intro k hk
    unfold cel
    rw [show (54784 + k) / 256 = 214 from by omega, show (54784 + k) % 256 = k from by omega]
    rfl
  have fin : ∀ iv : IV, -100 ≤ iv.1 → iv.2 ≤ 6 → retOK (some (0, some iv)) v x → ∃ a ∈ kc_17.2.2.2.2.2.2, altOK a (V1 ++ V2) v h' := by
    intro iv i1 i2 hx
    match v, hx with
    | some (.inl y), ⟨y1, y2, y3⟩ =>
      have := y3 iv rfl
      exact ⟨_, List.mem_cons_self, x, ⟨rfl, y2, fun q hq => by cases hq; exact ⟨by simp only; omega, by simp only; omega⟩⟩, (fun q hq => by cases hq), (fun q hq => by cases hq), (fun q hq => by cases hq)⟩
    | some (.inr (.inl y)), ⟨y1, _⟩ => cases y1
    | none, hx => exact hx.elim
    | some (.inr (.inr _)), hx => exact hx.elim
  rcases List.mem_cons.mp ha with rfl | ha
  · have p0 := (x2 _ List.mem_cons_self).2
    have p0 : bnd (some ((c : Int), (c : Int))) (cel h' (54784 + 0)) := p0
    rw [cel0 0 (by decide)] at p0
    have p0 := p0 _ rfl
    simp only at p0
    exact ⟨v, h', g', r1, r2, ⟨bx_RR hc8 (bxW_b ⟨c, hc8⟩) r3 hR.1 hc (Or.inl (show h' 214 ((0 : Nat) : Int) = (c : Int) from by omega)), FlW.fr r3 hR.2⟩, FR_sub r3 (subW_b ⟨c, hc8⟩), r4, fin _ (by simp only; omega) (by simp only; omega) x1⟩
  · rcases List.mem_cons.mp ha with rfl | ha
    · have p0 : bnd (some ((c : Int) + 1, (c : Int) + 1)) (cel h' (54784 + 0)) := (x2 _ List.mem_cons_self).2
      have p1 : bnd (some (1, 4)) (cel h' (54784 + 58 + c)) := (x2 _ (List.mem_cons_of_mem _ List.mem_cons_self)).2
      have p2 : bnd (some (1, 999)) (cel h' (54784 + 66 + c)) := (x2 _ (List.mem_cons_of_mem _ (List.mem_cons_of_mem _ List.mem_cons_self))).2
      rw [cel0 0 (by decide)] at p0
      rw [Nat.add_assoc, cel0 _ (by omega)] at p1
      rw [Nat.add_assoc, cel0 _ (by omega)] at p2
      have p0 := p0 _ rfl
      have p1 := p1 _ rfl
      have p2 := p2 _ rfl
      simp only at p0 p1 p2
      have hcame : h' 214 0 = (c : Int) + 1 := (show h' 214 ((0 : Nat) : Int) = (c : Int) + 1 from by omega)
      have hb7 : (0 : Int) ≤ h' 214 0 ∧ h' 214 0 ≤ 7 := r2 214 (by decide) (0, 0, 0, 7) (by decide +kernel) 0 (by decide) (by decide)
      exact ⟨v, h', g', r1, r2, ⟨bx_RR hc8 (bxW_b ⟨c, hc8⟩) r3 hR.1 hc (Or.inr ⟨hcame, p1.1, p2.1⟩), FlW.fr r3 hR.2⟩, FR_sub r3 (subW_b ⟨c, hc8⟩), r4, fin ((c : Int), (c : Int)) (by simp only; omega) (by simp only; omega) x1⟩
    · cases ha
