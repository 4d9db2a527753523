/-! ===== a frame of method mi at a place of the plain machine: the instructions that touch no cell ===== -/
def FO (base : Nat) (ad : Int → Nat) (z : Int → Int) (cA : Nat → ClassId) (D : va_G) (p : Program) (s : State) (m : MethodId) (args : Array Value) (meth : Method) (c : Code) (mi : Nat) : Prop :=
  p.tables.exec = Jvm.exec ∧ c.code = mC mi ∧ c.maxLocals = mL mi ∧ s.vm.findClass (oN (mO mi)) = some m.cls ∧ (∀ w ∈ WB, w.before args s = true) ∧ KB base ad z cA D s s.heap ∧ meth.locks = false ∧ meth.sig.returnType = mR mi ∧ (mK mi = 2 → meth.name = "<init>") ∧ AdOK base ad ∧ base ≤ s.heap.size
def WG (base : Nat) (ad : Int → Nat) (cA : Nat → ClassId) (D : va_G) (n0 mi : Nat) (p : Program) (l : Launch) (e : Env) (R : Room) (s : State) (m : MethodId) (args : Array Value) (below : List Frame) (meth : Method) (c : Code) (Q : State → Prop) (k : Cfg) : Prop :=
  ∀ (H : Heap) (locs : List Loc) (ls : Array Slot), HI base ad cA D H k.2.2.2.1 k.2.2.2.2 → va_S (ZA base) s.heap H locs → LR ad (mL mi) ls k.2.1 →
    W p l e R s m args below meth c H locs (k.2.2.2.2.1 - n0) (sl k.2.2.2.2.1 - sl n0) Q (F0 m k.1 ls (k.2.2.1.map (mv ad)))
theorem cc_eq (x y : Int) : ccmp .eq x y = true ↔ Int32.ofInt x = Int32.ofInt y := by simp [ccmp, e_nl]
theorem cc_ne (x y : Int) : ccmp .ne x y = true ↔ ¬ Int32.ofInt x = Int32.ofInt y := by simp [ccmp, e_nl]
theorem cc_lt (x y : Int) : ccmp .lt x y = true ↔ Int32.ofInt x < Int32.ofInt y := by simp [ccmp, e_lt]
theorem cc_ge (x y : Int) : ccmp .ge x y = true ↔ Int32.ofInt y ≤ Int32.ofInt x := by simp [ccmp, e_le]
theorem cc_gt (x y : Int) : ccmp .gt x y = true ↔ Int32.ofInt y < Int32.ofInt x := by simp [ccmp, e_lt]
theorem cc_le (x y : Int) : ccmp .le x y = true ↔ Int32.ofInt x ≤ Int32.ofInt y := by simp [ccmp, e_le]
theorem nft {b : Bool} (h : ¬ b = true) : b = false := by cases b with
  | true => exact absurd rfl h
  | false => rfl
theorem w32_64 (x : Int) : w64 (w32 x) = w32 x := Int64.toInt_ofInt_of_le (by have := Int32.le_toInt (Int32.ofInt x); unfold w32; omega) (by have := Int32.toInt_lt (Int32.ofInt x); unfold w32; omega)
theorem e_cmp (x y : Int) : lg_cmp (Int64.ofInt x) (Int64.ofInt y) = Int32.ofInt (cmpL x y) := by
  unfold lg_cmp cmpL
  by_cases a : w64 y < w64 x
  · rw [if_pos a, if_pos ((e_lt64 y x).mpr a)]; rfl
  · rw [if_neg a, if_neg (fun q => a ((e_lt64 y x).mp q))]
    by_cases b : w64 x = w64 y
    · rw [if_pos b, if_pos ((e_nl64 x y).mpr b)]; rfl
    · rw [if_neg b, if_neg (fun q => b ((e_nl64 x y).mp q))]; rfl
section FRA
variable {base : Nat} {ad : Int → Nat} {z : Int → Int} {cA : Nat → ClassId} {D : va_G} {n0 mi : Nat} {p : Program} {l : Launch} {e : Env} {R : Room} {s : State} {m : MethodId} {args : Array Value} {below : List Frame} {meth : Method} {c : Code} {Q : State → Prop}
variable {pc : Nat} {ls : PL} {st : List PV} {h : PH} {g : PG}
theorem s_iconst {i : Int} (F : FO base ad z cA D p s m args meth c mi) (hd : decode (mC mi) pc = .ok (.iconst i, 1))  (k : WG base ad cA D n0 mi p l e R s m args below meth c Q (pc + 1, ls, .inl i :: st, h, g)) : WG base ad cA D n0 mi p l e R s m args below meth c Q (pc, ls, st, h, g) := fun H locs l9 hH hS hL =>
  lv_iconst F.1 F.2.1 hd rfl (k H locs l9 hH hS hL)
theorem s_bipush {i : Int} (F : FO base ad z cA D p s m args meth c mi) (hd : decode (mC mi) pc = .ok (.bipush i, 2)) (hi : -128 ≤ i ∧ i ≤ 127) (k : WG base ad cA D n0 mi p l e R s m args below meth c Q (pc + 2, ls, .inl i :: st, h, g)) : WG base ad cA D n0 mi p l e R s m args below meth c Q (pc, ls, st, h, g) := fun H locs l9 hH hS hL =>
  lv_bipush F.1 F.2.1 hd (Int8.toInt32_ofInt (by rw [show Int8.minValue.toInt = -128 from by decide]; exact hi.1) (by rw [show Int8.maxValue.toInt = 127 from by decide]; exact hi.2)) (k H locs l9 hH hS hL)
theorem s_sipush {i : Int} (F : FO base ad z cA D p s m args meth c mi) (hd : decode (mC mi) pc = .ok (.sipush i, 3)) (hi : -32768 ≤ i ∧ i ≤ 32767) (k : WG base ad cA D n0 mi p l e R s m args below meth c Q (pc + 3, ls, .inl i :: st, h, g)) : WG base ad cA D n0 mi p l e R s m args below meth c Q (pc, ls, st, h, g) := fun H locs l9 hH hS hL =>
  lv_sipush F.1 F.2.1 hd (Int16.toInt32_ofInt (by rw [show Int16.minValue.toInt = -32768 from by decide]; exact hi.1) (by rw [show Int16.maxValue.toInt = 32767 from by decide]; exact hi.2)) (k H locs l9 hH hS hL)
theorem s_lconst {i : Fin 2} (F : FO base ad z cA D p s m args meth c mi) (hd : decode (mC mi) pc = .ok (.lconst i, 1))  (k : WG base ad cA D n0 mi p l e R s m args below meth c Q (pc + 1, ls, .inr (.inl ((i : Nat) : Int)) :: st, h, g)) : WG base ad cA D n0 mi p l e R s m args below meth c Q (pc, ls, st, h, g) := fun H locs l9 hH hS hL =>
  lv_lconst F.1 F.2.1 hd (Int64.ofInt_eq_ofNat).symm (k H locs l9 hH hS hL)
theorem s_iadd {x y : Int} (F : FO base ad z cA D p s m args meth c mi) (hd : decode (mC mi) pc = .ok (.iadd, 1))  (k : WG base ad cA D n0 mi p l e R s m args below meth c Q (pc + 1, ls, .inl (x + y) :: st, h, g)) : WG base ad cA D n0 mi p l e R s m args below meth c Q (pc, ls, .inl y :: .inl x :: st, h, g) := fun H locs l9 hH hS hL =>
  lv_iadd F.1 F.2.1 hd (by rw [← Int32.ofInt_add]; exact k H locs l9 hH hS hL)
theorem s_isub {x y : Int} (F : FO base ad z cA D p s m args meth c mi) (hd : decode (mC mi) pc = .ok (.isub, 1))  (k : WG base ad cA D n0 mi p l e R s m args below meth c Q (pc + 1, ls, .inl (x - y) :: st, h, g)) : WG base ad cA D n0 mi p l e R s m args below meth c Q (pc, ls, .inl y :: .inl x :: st, h, g) := fun H locs l9 hH hS hL =>
  lv_isub F.1 F.2.1 hd (by rw [← Int32.ofInt_sub]; exact k H locs l9 hH hS hL)
theorem s_imul {x y : Int} (F : FO base ad z cA D p s m args meth c mi) (hd : decode (mC mi) pc = .ok (.imul, 1))  (k : WG base ad cA D n0 mi p l e R s m args below meth c Q (pc + 1, ls, .inl (x * y) :: st, h, g)) : WG base ad cA D n0 mi p l e R s m args below meth c Q (pc, ls, .inl y :: .inl x :: st, h, g) := fun H locs l9 hH hS hL =>
  lv_imul F.1 F.2.1 hd (by rw [← Int32.ofInt_mul]; exact k H locs l9 hH hS hL)
theorem s_iand {x y : Int} (F : FO base ad z cA D p s m args meth c mi) (hd : decode (mC mi) pc = .ok (.iand, 1))  (k : WG base ad cA D n0 mi p l e R s m args below meth c Q (pc + 1, ls, .inl (andI x y) :: st, h, g)) : WG base ad cA D n0 mi p l e R s m args below meth c Q (pc, ls, .inl y :: .inl x :: st, h, g) := fun H locs l9 hH hS hL =>
  lv_iand F.1 F.2.1 hd (by have k1 := k H locs l9 hH hS hL; rw [List.map_cons, show mv ad (.inl (andI x y)) = .int _ from congrArg Value.int (Int32.ofInt_toInt _)] at k1; exact k1)
theorem s_ior {x y : Int} (F : FO base ad z cA D p s m args meth c mi) (hd : decode (mC mi) pc = .ok (.ior, 1))  (k : WG base ad cA D n0 mi p l e R s m args below meth c Q (pc + 1, ls, .inl (orI x y) :: st, h, g)) : WG base ad cA D n0 mi p l e R s m args below meth c Q (pc, ls, .inl y :: .inl x :: st, h, g) := fun H locs l9 hH hS hL =>
  lv_ior F.1 F.2.1 hd (by have k1 := k H locs l9 hH hS hL; rw [List.map_cons, show mv ad (.inl (orI x y)) = .int _ from congrArg Value.int (Int32.ofInt_toInt _)] at k1; exact k1)
theorem s_ixor {x y : Int} (F : FO base ad z cA D p s m args meth c mi) (hd : decode (mC mi) pc = .ok (.ixor, 1))  (k : WG base ad cA D n0 mi p l e R s m args below meth c Q (pc + 1, ls, .inl (xorI x y) :: st, h, g)) : WG base ad cA D n0 mi p l e R s m args below meth c Q (pc, ls, .inl y :: .inl x :: st, h, g) := fun H locs l9 hH hS hL =>
  lv_ixor F.1 F.2.1 hd (by have k1 := k H locs l9 hH hS hL; rw [List.map_cons, show mv ad (.inl (xorI x y)) = .int _ from congrArg Value.int (Int32.ofInt_toInt _)] at k1; exact k1)
theorem s_ishl {x y : Int} (F : FO base ad z cA D p s m args meth c mi) (hd : decode (mC mi) pc = .ok (.ishl, 1))  (k : WG base ad cA D n0 mi p l e R s m args below meth c Q (pc + 1, ls, .inl (shlI x y) :: st, h, g)) : WG base ad cA D n0 mi p l e R s m args below meth c Q (pc, ls, .inl y :: .inl x :: st, h, g) := fun H locs l9 hH hS hL =>
  lv_ishl F.1 F.2.1 hd (by have k1 := k H locs l9 hH hS hL; rw [List.map_cons, show mv ad (.inl (shlI x y)) = .int _ from congrArg Value.int (Int32.ofInt_toInt _)] at k1; exact k1)
theorem s_ishr {x y : Int} (F : FO base ad z cA D p s m args meth c mi) (hd : decode (mC mi) pc = .ok (.ishr, 1))  (k : WG base ad cA D n0 mi p l e R s m args below meth c Q (pc + 1, ls, .inl (shrI x y) :: st, h, g)) : WG base ad cA D n0 mi p l e R s m args below meth c Q (pc, ls, .inl y :: .inl x :: st, h, g) := fun H locs l9 hH hS hL =>
  lv_ishr F.1 F.2.1 hd (by have k1 := k H locs l9 hH hS hL; rw [List.map_cons, show mv ad (.inl (shrI x y)) = .int _ from congrArg Value.int (Int32.ofInt_toInt _)] at k1; exact k1)
theorem s_iushr {x y : Int} (F : FO base ad z cA D p s m args meth c mi) (hd : decode (mC mi) pc = .ok (.iushr, 1))  (k : WG base ad cA D n0 mi p l e R s m args below meth c Q (pc + 1, ls, .inl (ushrI x y) :: st, h, g)) : WG base ad cA D n0 mi p l e R s m args below meth c Q (pc, ls, .inl y :: .inl x :: st, h, g) := fun H locs l9 hH hS hL =>
  lv_iushr F.1 F.2.1 hd (Int32.ofInt_toInt _).symm (k H locs l9 hH hS hL)
theorem s_idiv {x y : Int} (F : FO base ad z cA D p s m args meth c mi) (hd : decode (mC mi) pc = .ok (.idiv, 1)) (hy : ¬ w32 y = 0) (k : WG base ad cA D n0 mi p l e R s m args below meth c Q (pc + 1, ls, .inl (divI x y) :: st, h, g)) : WG base ad cA D n0 mi p l e R s m args below meth c Q (pc, ls, .inl y :: .inl x :: st, h, g) := fun H locs l9 hH hS hL =>
  lv_idiv F.1 F.2.1 hd (fun q => hy (by have := (e_nl y 0).mp q; rwa [w32_0] at this)) (by have k1 := k H locs l9 hH hS hL; rw [List.map_cons, show mv ad (.inl (divI x y)) = .int _ from congrArg Value.int (Int32.ofInt_toInt _)] at k1; exact k1)
theorem s_irem {x y : Int} (F : FO base ad z cA D p s m args meth c mi) (hd : decode (mC mi) pc = .ok (.irem, 1)) (hy : ¬ w32 y = 0) (k : WG base ad cA D n0 mi p l e R s m args below meth c Q (pc + 1, ls, .inl (remI x y) :: st, h, g)) : WG base ad cA D n0 mi p l e R s m args below meth c Q (pc, ls, .inl y :: .inl x :: st, h, g) := fun H locs l9 hH hS hL =>
  lv_irem F.1 F.2.1 hd (fun q => hy (by have := (e_nl y 0).mp q; rwa [w32_0] at this)) (by have k1 := k H locs l9 hH hS hL; rw [List.map_cons, show mv ad (.inl (remI x y)) = .int _ from congrArg Value.int (Int32.ofInt_toInt _)] at k1; exact k1)
theorem s_ldiv {x y : Int} (F : FO base ad z cA D p s m args meth c mi) (hd : decode (mC mi) pc = .ok (.ldiv, 1)) (hy : ¬ w64 y = 0) (k : WG base ad cA D n0 mi p l e R s m args below meth c Q (pc + 1, ls, .inr (.inl (divL x y)) :: st, h, g)) : WG base ad cA D n0 mi p l e R s m args below meth c Q (pc, ls, .inr (.inl y) :: .inr (.inl x) :: st, h, g) := fun H locs l9 hH hS hL =>
  lv_ldiv F.1 F.2.1 hd (fun q => hy (by have := (e_nl64 y 0).mp q; rwa [show w64 0 = 0 from by decide] at this)) (by have k1 := k H locs l9 hH hS hL; rw [List.map_cons, show mv ad (.inr (.inl (divL x y))) = .long _ from congrArg Value.long (Int64.ofInt_toInt _)] at k1; exact k1)
theorem s_lrem {x y : Int} (F : FO base ad z cA D p s m args meth c mi) (hd : decode (mC mi) pc = .ok (.lrem, 1)) (hy : ¬ w64 y = 0) (k : WG base ad cA D n0 mi p l e R s m args below meth c Q (pc + 1, ls, .inr (.inl (remL x y)) :: st, h, g)) : WG base ad cA D n0 mi p l e R s m args below meth c Q (pc, ls, .inr (.inl y) :: .inr (.inl x) :: st, h, g) := fun H locs l9 hH hS hL =>
  lv_lrem F.1 F.2.1 hd (fun q => hy (by have := (e_nl64 y 0).mp q; rwa [show w64 0 = 0 from by decide] at this)) (by have k1 := k H locs l9 hH hS hL; rw [List.map_cons, show mv ad (.inr (.inl (remL x y))) = .long _ from congrArg Value.long (Int64.ofInt_toInt _)] at k1; exact k1)
theorem s_ineg {x : Int} (F : FO base ad z cA D p s m args meth c mi) (hd : decode (mC mi) pc = .ok (.ineg, 1))  (k : WG base ad cA D n0 mi p l e R s m args below meth c Q (pc + 1, ls, .inl (-x) :: st, h, g)) : WG base ad cA D n0 mi p l e R s m args below meth c Q (pc, ls, .inl x :: st, h, g) := fun H locs l9 hH hS hL =>
  lv_ineg F.1 F.2.1 hd (by rw [← Int32.ofInt_neg]; exact k H locs l9 hH hS hL)
theorem s_lneg {x : Int} (F : FO base ad z cA D p s m args meth c mi) (hd : decode (mC mi) pc = .ok (.lneg, 1))  (k : WG base ad cA D n0 mi p l e R s m args below meth c Q (pc + 1, ls, .inr (.inl (-x)) :: st, h, g)) : WG base ad cA D n0 mi p l e R s m args below meth c Q (pc, ls, .inr (.inl x) :: st, h, g) := fun H locs l9 hH hS hL =>
  lv_lneg F.1 F.2.1 hd (by rw [← Int64.ofInt_neg]; exact k H locs l9 hH hS hL)
theorem s_ladd {x y : Int} (F : FO base ad z cA D p s m args meth c mi) (hd : decode (mC mi) pc = .ok (.ladd, 1))  (k : WG base ad cA D n0 mi p l e R s m args below meth c Q (pc + 1, ls, .inr (.inl (x + y)) :: st, h, g)) : WG base ad cA D n0 mi p l e R s m args below meth c Q (pc, ls, .inr (.inl y) :: .inr (.inl x) :: st, h, g) := fun H locs l9 hH hS hL =>
  lv_ladd F.1 F.2.1 hd (by rw [← Int64.ofInt_add]; exact k H locs l9 hH hS hL)
theorem s_lsub {x y : Int} (F : FO base ad z cA D p s m args meth c mi) (hd : decode (mC mi) pc = .ok (.lsub, 1))  (k : WG base ad cA D n0 mi p l e R s m args below meth c Q (pc + 1, ls, .inr (.inl (x - y)) :: st, h, g)) : WG base ad cA D n0 mi p l e R s m args below meth c Q (pc, ls, .inr (.inl y) :: .inr (.inl x) :: st, h, g) := fun H locs l9 hH hS hL =>
  lv_lsub F.1 F.2.1 hd (by rw [← Int64.ofInt_sub]; exact k H locs l9 hH hS hL)
theorem s_lmul {x y : Int} (F : FO base ad z cA D p s m args meth c mi) (hd : decode (mC mi) pc = .ok (.lmul, 1))  (k : WG base ad cA D n0 mi p l e R s m args below meth c Q (pc + 1, ls, .inr (.inl (x * y)) :: st, h, g)) : WG base ad cA D n0 mi p l e R s m args below meth c Q (pc, ls, .inr (.inl y) :: .inr (.inl x) :: st, h, g) := fun H locs l9 hH hS hL =>
  lv_lmul F.1 F.2.1 hd (by rw [← Int64.ofInt_mul]; exact k H locs l9 hH hS hL)
theorem s_i2b {x : Int} (F : FO base ad z cA D p s m args meth c mi) (hd : decode (mC mi) pc = .ok (.i2b, 1))  (k : WG base ad cA D n0 mi p l e R s m args below meth c Q (pc + 1, ls, .inl (i2bI x) :: st, h, g)) : WG base ad cA D n0 mi p l e R s m args below meth c Q (pc, ls, .inl x :: st, h, g) := fun H locs l9 hH hS hL =>
  lv_i2b F.1 F.2.1 hd (Int32.ofInt_toInt _).symm (k H locs l9 hH hS hL)
theorem s_i2c {x : Int} (F : FO base ad z cA D p s m args meth c mi) (hd : decode (mC mi) pc = .ok (.i2c, 1))  (k : WG base ad cA D n0 mi p l e R s m args below meth c Q (pc + 1, ls, .inl (i2cI x) :: st, h, g)) : WG base ad cA D n0 mi p l e R s m args below meth c Q (pc, ls, .inl x :: st, h, g) := fun H locs l9 hH hS hL =>
  lv_i2c F.1 F.2.1 hd (Int32.ofInt_toInt _).symm (k H locs l9 hH hS hL)
theorem s_i2l {x : Int} (F : FO base ad z cA D p s m args meth c mi) (hd : decode (mC mi) pc = .ok (.i2l, 1))  (k : WG base ad cA D n0 mi p l e R s m args below meth c Q (pc + 1, ls, .inr (.inl (w32 x)) :: st, h, g)) : WG base ad cA D n0 mi p l e R s m args below meth c Q (pc, ls, .inl x :: st, h, g) := fun H locs l9 hH hS hL =>
  lv_i2l F.1 F.2.1 hd (Int64.toInt_inj.mp (by rw [Int32.toInt_toInt64]; exact (w32_64 x).symm)) (k H locs l9 hH hS hL)
theorem s_l2i {x : Int} (F : FO base ad z cA D p s m args meth c mi) (hd : decode (mC mi) pc = .ok (.l2i, 1))  (k : WG base ad cA D n0 mi p l e R s m args below meth c Q (pc + 1, ls, .inl x :: st, h, g)) : WG base ad cA D n0 mi p l e R s m args below meth c Q (pc, ls, .inr (.inl x) :: st, h, g) := fun H locs l9 hH hS hL =>
  lv_l2i F.1 F.2.1 hd Int64.toInt32_ofInt (k H locs l9 hH hS hL)
theorem s_lcmp {x y : Int} (F : FO base ad z cA D p s m args meth c mi) (hd : decode (mC mi) pc = .ok (.lcmp, 1))  (k : WG base ad cA D n0 mi p l e R s m args below meth c Q (pc + 1, ls, .inl (cmpL x y) :: st, h, g)) : WG base ad cA D n0 mi p l e R s m args below meth c Q (pc, ls, .inr (.inl y) :: .inr (.inl x) :: st, h, g) := fun H locs l9 hH hS hL =>
  W.lcmp F.1 F.2.1 hd (by rw [e_cmp]; exact k H locs l9 hH hS hL)
theorem s_dup {v : PV} (F : FO base ad z cA D p s m args meth c mi) (hd : decode (mC mi) pc = .ok (.dup, 1)) (hv : pcat v = 1) (k : WG base ad cA D n0 mi p l e R s m args below meth c Q (pc + 1, ls, v :: v :: st, h, g)) : WG base ad cA D n0 mi p l e R s m args below meth c Q (pc, ls, v :: st, h, g) := fun H locs l9 hH hS hL =>
  lv_dup F.1 F.2.1 hd ((mv_cat ad v).trans hv) (k H locs l9 hH hS hL)
theorem s_pop {v : PV} (F : FO base ad z cA D p s m args meth c mi) (hd : decode (mC mi) pc = .ok (.pop, 1)) (hv : pcat v = 1) (k : WG base ad cA D n0 mi p l e R s m args below meth c Q (pc + 1, ls, st, h, g)) : WG base ad cA D n0 mi p l e R s m args below meth c Q (pc, ls, v :: st, h, g) := fun H locs l9 hH hS hL =>
  lv_pop F.1 F.2.1 hd ((mv_cat ad v).trans hv) (k H locs l9 hH hS hL)
theorem s_pop2 {v : PV} (F : FO base ad z cA D p s m args meth c mi) (hd : decode (mC mi) pc = .ok (.pop2, 1)) (hv : pcat v = 2) (k : WG base ad cA D n0 mi p l e R s m args below meth c Q (pc + 1, ls, st, h, g)) : WG base ad cA D n0 mi p l e R s m args below meth c Q (pc, ls, v :: st, h, g) := fun H locs l9 hH hS hL =>
  lv_pop2_2 F.1 F.2.1 hd ((mv_cat ad v).trans hv) (k H locs l9 hH hS hL)
theorem s_dup2 {v w : PV} (F : FO base ad z cA D p s m args meth c mi) (hd : decode (mC mi) pc = .ok (.dup2, 1)) (hv : pcat v = 1) (hw : pcat w = 1) (k : WG base ad cA D n0 mi p l e R s m args below meth c Q (pc + 1, ls, v :: w :: v :: w :: st, h, g)) : WG base ad cA D n0 mi p l e R s m args below meth c Q (pc, ls, v :: w :: st, h, g) := fun H locs l9 hH hS hL =>
  lv_dup2_11 F.1 F.2.1 hd ((mv_cat ad v).trans hv) ((mv_cat ad w).trans hw) (k H locs l9 hH hS hL)
theorem s_dup_x1 {v w : PV} (F : FO base ad z cA D p s m args meth c mi) (hd : decode (mC mi) pc = .ok (.dup_x1, 1)) (hv : pcat v = 1) (hw : pcat w = 1) (k : WG base ad cA D n0 mi p l e R s m args below meth c Q (pc + 1, ls, v :: w :: v :: st, h, g)) : WG base ad cA D n0 mi p l e R s m args below meth c Q (pc, ls, v :: w :: st, h, g) := fun H locs l9 hH hS hL =>
  lv_dup_x1 F.1 F.2.1 hd ((mv_cat ad v).trans hv) ((mv_cat ad w).trans hw) (k H locs l9 hH hS hL)
theorem s_iload_n {i : Fin 4} {x : Int} (F : FO base ad z cA D p s m args meth c mi) (hd : decode (mC mi) pc = .ok (.iload_n i, 1)) (hx : lget ls i = some (.inl x)) (k : WG base ad cA D n0 mi p l e R s m args below meth c Q (pc + 1, ls, .inl x :: st, h, g)) : WG base ad cA D n0 mi p l e R s m args below meth c Q (pc, ls, st, h, g) := fun H locs l9 hH hS hL =>
  lv_iload_n F.1 F.2.1 hd rfl (hL.get hx) (k H locs l9 hH hS hL)
theorem s_iload {i : Nat} {x : Int} (F : FO base ad z cA D p s m args meth c mi) (hd : decode (mC mi) pc = .ok (.iload i, 2)) (hx : lget ls i = some (.inl x)) (k : WG base ad cA D n0 mi p l e R s m args below meth c Q (pc + 2, ls, .inl x :: st, h, g)) : WG base ad cA D n0 mi p l e R s m args below meth c Q (pc, ls, st, h, g) := fun H locs l9 hH hS hL =>
  lv_iload F.1 F.2.1 hd (hL.get hx) (k H locs l9 hH hS hL)
theorem s_lload_n {i : Fin 4} {x : Int} (F : FO base ad z cA D p s m args meth c mi) (hd : decode (mC mi) pc = .ok (.lload_n i, 1)) (hx : lget ls i = some (.inr (.inl x))) (k : WG base ad cA D n0 mi p l e R s m args below meth c Q (pc + 1, ls, .inr (.inl x) :: st, h, g)) : WG base ad cA D n0 mi p l e R s m args below meth c Q (pc, ls, st, h, g) := fun H locs l9 hH hS hL =>
  lv_lload_n F.1 F.2.1 hd rfl (hL.get hx) (k H locs l9 hH hS hL)
theorem s_lload {i : Nat} {x : Int} (F : FO base ad z cA D p s m args meth c mi) (hd : decode (mC mi) pc = .ok (.lload i, 2)) (hx : lget ls i = some (.inr (.inl x))) (k : WG base ad cA D n0 mi p l e R s m args below meth c Q (pc + 2, ls, .inr (.inl x) :: st, h, g)) : WG base ad cA D n0 mi p l e R s m args below meth c Q (pc, ls, st, h, g) := fun H locs l9 hH hS hL =>
  lv_lload F.1 F.2.1 hd (hL.get hx) (k H locs l9 hH hS hL)
theorem s_aload_n {i : Fin 4} {x : Int} (F : FO base ad z cA D p s m args meth c mi) (hd : decode (mC mi) pc = .ok (.aload_n i, 1)) (hx : lget ls i = some (.inr (.inr x))) (k : WG base ad cA D n0 mi p l e R s m args below meth c Q (pc + 1, ls, .inr (.inr x) :: st, h, g)) : WG base ad cA D n0 mi p l e R s m args below meth c Q (pc, ls, st, h, g) := fun H locs l9 hH hS hL =>
  lv_aload_n F.1 F.2.1 hd rfl (hL.get hx) (k H locs l9 hH hS hL)
theorem s_aload {i : Nat} {x : Int} (F : FO base ad z cA D p s m args meth c mi) (hd : decode (mC mi) pc = .ok (.aload i, 2)) (hx : lget ls i = some (.inr (.inr x))) (k : WG base ad cA D n0 mi p l e R s m args below meth c Q (pc + 2, ls, .inr (.inr x) :: st, h, g)) : WG base ad cA D n0 mi p l e R s m args below meth c Q (pc, ls, st, h, g) := fun H locs l9 hH hS hL =>
  lv_aload F.1 F.2.1 hd (hL.get hx) (k H locs l9 hH hS hL)
theorem s_istore_n {i : Fin 4} {x : Int} (F : FO base ad z cA D p s m args meth c mi) (hd : decode (mC mi) pc = .ok (.istore_n i, 1)) (hi : (i : Nat) < ls.length) (hf : lfree ls (i : Nat) = true) (k : WG base ad cA D n0 mi p l e R s m args below meth c Q (pc + 1, (ls.set (i : Nat) (some (.inl x))), st, h, g)) : WG base ad cA D n0 mi p l e R s m args below meth c Q (pc, ls, .inl x :: st, h, g) := fun H locs l9 hH hS hL =>
  lv_istore_n F.1 F.2.1 hd rfl hL.has (by have q9 : ls.length = mL mi := hL.2.1; omega) rfl (fun l8 h8 => k H locs l8 hH hS (hL.put1 hi hf h8))
theorem s_istore {i : Nat} {x : Int} (F : FO base ad z cA D p s m args meth c mi) (hd : decode (mC mi) pc = .ok (.istore i, 2)) (hi : i < ls.length) (hf : lfree ls i = true) (k : WG base ad cA D n0 mi p l e R s m args below meth c Q (pc + 2, (ls.set i (some (.inl x))), st, h, g)) : WG base ad cA D n0 mi p l e R s m args below meth c Q (pc, ls, .inl x :: st, h, g) := fun H locs l9 hH hS hL =>
  lv_istore F.1 F.2.1 hd hL.has (by have q9 : ls.length = mL mi := hL.2.1; omega) rfl (fun l8 h8 => k H locs l8 hH hS (hL.put1 hi hf h8))
theorem s_lstore_n {i : Fin 4} {x : Int} (F : FO base ad z cA D p s m args meth c mi) (hd : decode (mC mi) pc = .ok (.lstore_n i, 1)) (hi : (i : Nat) + 1 < ls.length) (hf : lfree ls (i : Nat) = true) (k : WG base ad cA D n0 mi p l e R s m args below meth c Q (pc + 1, ((ls.set (i : Nat) (some (.inr (.inl x)))).set ((i : Nat) + 1) none), st, h, g)) : WG base ad cA D n0 mi p l e R s m args below meth c Q (pc, ls, .inr (.inl x) :: st, h, g) := fun H locs l9 hH hS hL =>
  lv_lstore_n F.1 F.2.1 hd rfl hL.has (by have q9 : ls.length = mL mi := hL.2.1; omega) rfl (fun l8 h8 => k H locs l8 hH hS (hL.put2 hi hf h8))
theorem s_lstore {i : Nat} {x : Int} (F : FO base ad z cA D p s m args meth c mi) (hd : decode (mC mi) pc = .ok (.lstore i, 2)) (hi : i + 1 < ls.length) (hf : lfree ls i = true) (k : WG base ad cA D n0 mi p l e R s m args below meth c Q (pc + 2, ((ls.set i (some (.inr (.inl x)))).set (i + 1) none), st, h, g)) : WG base ad cA D n0 mi p l e R s m args below meth c Q (pc, ls, .inr (.inl x) :: st, h, g) := fun H locs l9 hH hS hL =>
  lv_lstore F.1 F.2.1 hd hL.has (by have q9 : ls.length = mL mi := hL.2.1; omega) rfl (fun l8 h8 => k H locs l8 hH hS (hL.put2 hi hf h8))
theorem s_astore_n {i : Fin 4} {x : Int} (F : FO base ad z cA D p s m args meth c mi) (hd : decode (mC mi) pc = .ok (.astore_n i, 1)) (hi : (i : Nat) < ls.length) (hf : lfree ls (i : Nat) = true) (k : WG base ad cA D n0 mi p l e R s m args below meth c Q (pc + 1, (ls.set (i : Nat) (some (.inr (.inr x)))), st, h, g)) : WG base ad cA D n0 mi p l e R s m args below meth c Q (pc, ls, .inr (.inr x) :: st, h, g) := fun H locs l9 hH hS hL =>
  lv_astore_n F.1 F.2.1 hd rfl hL.has (by have q9 : ls.length = mL mi := hL.2.1; omega) rfl (fun l8 h8 => k H locs l8 hH hS (hL.put1 hi hf h8))
theorem s_astore {i : Nat} {x : Int} (F : FO base ad z cA D p s m args meth c mi) (hd : decode (mC mi) pc = .ok (.astore i, 2)) (hi : i < ls.length) (hf : lfree ls i = true) (k : WG base ad cA D n0 mi p l e R s m args below meth c Q (pc + 2, (ls.set i (some (.inr (.inr x)))), st, h, g)) : WG base ad cA D n0 mi p l e R s m args below meth c Q (pc, ls, .inr (.inr x) :: st, h, g) := fun H locs l9 hH hS hL =>
  lv_astore F.1 F.2.1 hd hL.has (by have q9 : ls.length = mL mi := hL.2.1; omega) rfl (fun l8 h8 => k H locs l8 hH hS (hL.put1 hi hf h8))
theorem s_iinc {i : Nat} {q x : Int} (F : FO base ad z cA D p s m args meth c mi) (hd : decode (mC mi) pc = .ok (.iinc i q, 3)) (hx : lget ls i = some (.inl x)) (hi : i < ls.length) (hf : lfree ls i = true) (k : WG base ad cA D n0 mi p l e R s m args below meth c Q (pc + 3, ls.set i (some (.inl (x + q))), st, h, g)) : WG base ad cA D n0 mi p l e R s m args below meth c Q (pc, ls, st, h, g) := fun H locs l9 hH hS hL =>
  lv_iinc (k := 0) (lv := (i, mv ad (.inl x)) :: toL ad ls) F.1 F.2.1 hd ⟨hL.1, hL.2.2.1, fun y hy => by
    rcases List.mem_cons.mp hy with rfl | hy
    · exact hL.get hx
    · exact hL.has.2.2 y hy⟩ rfl (Int32.ofInt_add x q).symm (by have q9 : ls.length = mL mi := hL.2.1; omega) rfl (fun l8 h8 => k H locs l8 hH hS (hL.put1 hi hf ⟨h8.1, h8.2.1, fun y hy => by
      refine h8.2.2 y ?_
      rcases List.mem_cons.mp hy with rfl | hy
      · exact List.mem_cons_self
      · refine List.mem_cons_of_mem _ ?_
        obtain ⟨a1, a2⟩ := List.mem_filter.mp hy
        exact List.mem_filter.mpr ⟨List.mem_cons_of_mem _ a1, a2⟩⟩))
theorem s_goto {off : Int} (F : FO base ad z cA D p s m args meth c mi) (hd : decode (mC mi) pc = .ok (.goto off, 3)) (ho : 0 ≤ (pc : Int) + off) (k : WG base ad cA D n0 mi p l e R s m args below meth c Q (tgtOf pc off, ls, st, h, g)) : WG base ad cA D n0 mi p l e R s m args below meth c Q (pc, ls, st, h, g) := fun H locs l9 hH hS hL =>
  lv_goto F.1 F.2.1 hd (Int.toNat_of_nonneg ho).symm (k H locs l9 hH hS hL)
theorem s_icmp {q : ClassFile.Cond} {x y off : Int} (F : FO base ad z cA D p s m args meth c mi) (hd : decode (mC mi) pc = .ok (.if_icmp q off, 3)) (ho : 0 ≤ (pc : Int) + off) (kt : ccmp q x y = true → WG base ad cA D n0 mi p l e R s m args below meth c Q (tgtOf pc off, ls, st, h, g)) (kf : ccmp q x y = false → WG base ad cA D n0 mi p l e R s m args below meth c Q (pc + 3, ls, st, h, g)) : WG base ad cA D n0 mi p l e R s m args below meth c Q (pc, ls, .inl y :: .inl x :: st, h, g) := fun H locs l9 hH hS hL => by
  have ht : (pc : Int) + off = (tgtOf pc off : Int) := (Int.toNat_of_nonneg ho).symm
  have kt2 := fun q1 => kt q1 H locs l9 hH hS hL
  have kf2 := fun q1 => kf q1 H locs l9 hH hS hL
  cases q with
  | eq => exact lv_icmp_eq F.1 F.2.1 hd ht (fun h => kt2 ((cc_eq x y).mpr h)) (fun h => kf2 (nft (fun q => h ((cc_eq x y).mp q))))
  | ne => exact lv_icmp_ne F.1 F.2.1 hd ht (fun h => kt2 ((cc_ne x y).mpr h)) (fun h => kf2 (nft (fun q => (cc_ne x y).mp q h)))
  | lt => exact lv_icmp_lt F.1 F.2.1 hd ht (fun h => kt2 ((cc_lt x y).mpr h)) (fun h => kf2 (nft (fun q => h ((cc_lt x y).mp q))))
  | ge => exact lv_icmp_ge F.1 F.2.1 hd ht (fun h => kt2 ((cc_ge x y).mpr h)) (fun h => kf2 (nft (fun q => h ((cc_ge x y).mp q))))
  | gt => exact lv_icmp_gt F.1 F.2.1 hd ht (fun h => kt2 ((cc_gt x y).mpr h)) (fun h => kf2 (nft (fun q => h ((cc_gt x y).mp q))))
  | le => exact lv_icmp_le F.1 F.2.1 hd ht (fun h => kt2 ((cc_le x y).mpr h)) (fun h => kf2 (nft (fun q => h ((cc_le x y).mp q))))
theorem s_ifc {q : ClassFile.Cond} {x off : Int} (F : FO base ad z cA D p s m args meth c mi) (hd : decode (mC mi) pc = .ok (.ifCond q off, 3)) (ho : 0 ≤ (pc : Int) + off) (kt : ccmp q x 0 = true → WG base ad cA D n0 mi p l e R s m args below meth c Q (tgtOf pc off, ls, st, h, g)) (kf : ccmp q x 0 = false → WG base ad cA D n0 mi p l e R s m args below meth c Q (pc + 3, ls, st, h, g)) : WG base ad cA D n0 mi p l e R s m args below meth c Q (pc, ls, .inl x :: st, h, g) := fun H locs l9 hH hS hL => by
  have ht : (pc : Int) + off = (tgtOf pc off : Int) := (Int.toNat_of_nonneg ho).symm
  have kt2 := fun q1 => kt q1 H locs l9 hH hS hL
  have kf2 := fun q1 => kf q1 H locs l9 hH hS hL
  cases q with
  | eq => exact lv_if_eq F.1 F.2.1 hd ht (fun h => kt2 ((cc_eq x 0).mpr h)) (fun h => kf2 (nft (fun q => h ((cc_eq x 0).mp q))))
  | ne => exact lv_if_ne F.1 F.2.1 hd ht (fun h => kt2 ((cc_ne x 0).mpr h)) (fun h => kf2 (nft (fun q => (cc_ne x 0).mp q h)))
  | lt => exact lv_if_lt F.1 F.2.1 hd ht (fun h => kt2 ((cc_lt x 0).mpr h)) (fun h => kf2 (nft (fun q => h ((cc_lt x 0).mp q))))
  | ge => exact lv_if_ge F.1 F.2.1 hd ht (fun h => kt2 ((cc_ge x 0).mpr h)) (fun h => kf2 (nft (fun q => h ((cc_ge x 0).mp q))))
  | gt => exact lv_if_gt F.1 F.2.1 hd ht (fun h => kt2 ((cc_gt x 0).mpr h)) (fun h => kf2 (nft (fun q => h ((cc_gt x 0).mp q))))
  | le => exact lv_if_le F.1 F.2.1 hd ht (fun h => kt2 ((cc_le x 0).mpr h)) (fun h => kf2 (nft (fun q => h ((cc_le x 0).mp q))))
theorem s_tableOut {d lo hi : Int} {os : Array Int} {len : Nat} {x : Int} (F : FO base ad z cA D p s m args meth c mi) (hd : decode (mC mi) pc = .ok (.tableswitch d lo hi os, len)) (hx : w32 x < lo ∨ hi < w32 x) (ho : 0 ≤ (pc : Int) + d) (k : WG base ad cA D n0 mi p l e R s m args below meth c Q (tgtOf pc d, ls, st, h, g)) : WG base ad cA D n0 mi p l e R s m args below meth c Q (pc, ls, .inl x :: st, h, g) := fun H locs l9 hH hS hL =>
  lv_tableOut F.1 F.2.1 hd hx (Int.toNat_of_nonneg ho).symm (k H locs l9 hH hS hL)
theorem s_tableIn {d lo hi off : Int} {os : Array Int} {len : Nat} {x : Int} (F : FO base ad z cA D p s m args meth c mi) (hd : decode (mC mi) pc = .ok (.tableswitch d lo hi os, len)) (hx : ¬ (w32 x < lo ∨ hi < w32 x)) (hof : os[(w32 x - lo).toNat]? = some off) (ho : 0 ≤ (pc : Int) + off) (k : WG base ad cA D n0 mi p l e R s m args below meth c Q (tgtOf pc off, ls, st, h, g)) : WG base ad cA D n0 mi p l e R s m args below meth c Q (pc, ls, .inl x :: st, h, g) := fun H locs l9 hH hS hL =>
  lv_tableIn F.1 F.2.1 hd (fun q => hx (Or.inl q)) (fun q => hx (Or.inr q)) hof (Int.toNat_of_nonneg ho).symm (k H locs l9 hH hS hL)
theorem s_lookup {d : Int} {ps : Array (Int × Int)} {len : Nat} {x : Int} (F : FO base ad z cA D p s m args meth c mi) (hd : decode (mC mi) pc = .ok (.lookupswitch d ps, len)) (hp : (ps.toList.zip (ps.toList.drop 1)).all (fun q => decide (q.1.1 < q.2.1)) = true) (ho : 0 ≤ (pc : Int) + Op.lookupswitch.offset ps.toList d (w32 x)) (k : WG base ad cA D n0 mi p l e R s m args below meth c Q (tgtOf pc (Op.lookupswitch.offset ps.toList d (w32 x)), ls, st, h, g)) : WG base ad cA D n0 mi p l e R s m args below meth c Q (pc, ls, .inl x :: st, h, g) := fun H locs l9 hH hS hL =>
  lv_lookup F.1 F.2.1 hd hp rfl (Int.toNat_of_nonneg ho).symm (k H locs l9 hH hS hL)
end FRA
