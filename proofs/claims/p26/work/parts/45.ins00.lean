/-! ===== EACH INSTRUCTION, AS IT WAS DECODED, WITH WHAT THE TABLES SAY OF IT ===== -/
def nth {α : Type} : List α → Nat → Option α
  | [], _ => none
  | a :: _, 0 => some a
  | _ :: r, i + 1 => nth r i
abbrev E6 : Type := Instr × Nat × Nat × Nat × Nat × Nat
abbrev MT : Type := List (List (Nat × E6))
def e0 (i : Instr) (len : Nat) : E6 := (i, len, 0, 0, 0, 0)
def sgn (n s : Nat) : Int := bif Nat.beq s 0 then (n : Int) else -(n : Int)
def okC (m k kd x n w : Nat) : Bool := match mthT (mO m) k with
  | some (m', _) => Nat.beq m' x && (Nat.beq (mN x) n && (Nat.beq (mL x * 16 + mO x) w && (Nat.blt x nMeth && (Nat.ble (mF x + 1) (mF m) && (Nat.ble (8 + (mL x + 11) + mW x) (mW m) && Nat.beq (mK x) kd)))))
  | none => false
def okB (m k x : Nat) : Bool := decide (bltT (mO m) k = some x) && (Nat.ble 3 (mF m) && Nat.ble 100 (mW m))
def okF (m k c k' t : Nat) : Bool := match fldT (mO m) k with
  | some (a, b, _) => Nat.beq a c && (Nat.beq b k' && (Nat.beq (fty a b) t && Nat.ble t 2))
  | none => false
/-- what the four numbers beside an instruction say is so -/
def okH (m : Nat) (i : Instr) (x1 x2 x3 x4 : Nat) : Bool := match i with
  | .getfield k => okF m k x1 x2 x3
  | .putfield k => okF m k x1 x2 x3 && (Nat.beq x4 1 || decide (¬ parseFieldDescriptor ((vwCl.getD x1 (RX0, TX0, 0)).2.1 x2).2.2.1 = some .boolean))
  | .invokevirtual k => Nat.beq x1 1 && okC m k 0 x2 x3 x4
  | .invokespecial k => (Nat.beq x1 1 && (decide (bltT (mO m) k = none) && okC m k 2 x2 x3 x4)) || (Nat.beq x1 2 && okB m k x2)
  | .invokestatic k => (Nat.beq x1 1 && (decide (bltT (mO m) k = none) && okC m k 1 x2 x3 x4)) || (Nat.beq x1 2 && okB m k x2)
  | .ldc k => decide (cstT (mO m) k = some (sgn x2 x3)) || Nat.beq x1 9
  | .ldc_w k => decide (cstT (mO m) k = some (sgn x2 x3))
  | .ldc2_w k => decide (clgT (mO m) k = some (sgn x2 x3))
  | .ireturn => (Nat.beq x1 1 && decide (mR m = some .int)) || (Nat.beq x1 2 && decide (mR m = some .boolean)) || Nat.beq x1 9
  | .lreturn => decide (mR m = some .long)
  | .return_ => decide (mR m = none)
  | _ => true
def okE (m pc : Nat) (e : E6) : Bool := (match decode (mC m) pc with
  | .ok q => decide (q = (e.1, e.2.1))
  | .error _ => false) && okH m e.1 e.2.2.1 e.2.2.2.1 e.2.2.2.2.1 e.2.2.2.2.2
def okT (m : Nat) (t : MT) : Bool := t.all (fun c => c.all (fun q => okE m q.1 q.2))
def pT_0 : MT := [[(0, e0 (.aload_n 0) 1), (1, (.invokespecial 3, 3, 2, 1, 0, 0)), (4, e0 (.aload_n 0) 1), (5, e0 (.bipush 7) 2), (7, e0 (.newarray .int) 2), (9, (.putfield 9, 3, 0, 0, 1, 0)), (12, e0 (.aload_n 0) 1), (13, e0 (.bipush 7) 2), (15, e0 (.bipush 7) 2)],
  [(17, e0 (.multianewarray 15 2) 4), (21, (.putfield 17, 3, 0, 1, 1, 0)), (24, e0 (.aload_n 0) 1), (25, e0 (.bipush 7) 2), (27, e0 (.newarray .long) 2), (29, (.putfield 20, 3, 0, 2, 1, 0))],
  [(32, e0 (.aload_n 0) 1), (33, e0 (.bipush 7) 2), (35, e0 (.newarray .long) 2), (37, (.putfield 24, 3, 0, 3, 1, 0)), (40, e0 (.aload_n 0) 1), (41, e0 (.bipush 7) 2), (43, e0 (.anewarray 27) 3), (46, (.putfield 29, 3, 0, 4, 1, 0))],
  [(49, e0 (.aload_n 0) 1), (50, e0 (.new 33) 3), (53, e0 .dup 1), (54, (.invokespecial 35, 3, 1, 37, 1, 35)), (57, (.putfield 36, 3, 0, 5, 2, 0)), (60, e0 (.aload_n 0) 1), (61, e0 (.iconst 0) 1), (62, (.putfield 40, 3, 0, 6, 0, 0))],
  [(65, e0 (.iconst 0) 1), (66, e0 (.istore_n 1) 1), (67, e0 (.iload_n 1) 1), (68, e0 (.aload_n 0) 1), (69, (.getfield 29, 3, 0, 4, 1, 0)), (72, e0 .arraylength 1), (73, e0 (.if_icmp .ge 22) 3), (76, e0 (.aload_n 0) 1), (77, (.getfield 29, 3, 0, 4, 1, 0))],
  [(80, e0 (.iload_n 1) 1), (81, e0 (.new 27) 3), (84, e0 .dup 1), (85, (.invokespecial 44, 3, 1, 49, 1, 20)), (88, e0 .aastore 1), (89, e0 (.iinc 1 1) 3), (92, e0 (.goto (-25)) 3), (95, e0 .return_ 1)]]
theorem ok_0 : okT 0 pT_0 = true := by decide +kernel
def pT_1 : MT := [[(0, e0 (.aload_n 0) 1), (1, e0 (.aload_n 1) 1), (2, (.putfield 36, 3, 0, 5, 2, 0)), (5, e0 (.aload_n 0) 1), (6, e0 (.iload_n 2) 1), (7, (.putfield 40, 3, 0, 6, 0, 0)), (10, e0 (.iconst 0) 1), (11, e0 (.istore_n 3) 1), (12, e0 (.iload_n 3) 1), (13, e0 (.bipush 7) 2), (15, e0 (.if_icmp .ge 75) 3)],
  [(18, e0 (.aload_n 0) 1), (19, (.getfield 36, 3, 0, 5, 2, 0)), (22, (.getfield 45, 3, 3, 0, 1, 0)), (25, e0 (.iload_n 3) 1), (26, e0 .aaload 1), (27, e0 (.astore 4) 2), (29, e0 (.aload_n 0) 1), (30, (.getfield 9, 3, 0, 0, 1, 0))],
  [(33, e0 (.iload_n 3) 1), (34, e0 (.iconst 0) 1), (35, e0 .iastore 1), (36, e0 (.aload_n 0) 1), (37, (.getfield 17, 3, 0, 1, 1, 0)), (40, e0 (.iload_n 3) 1), (41, e0 .aaload 1), (42, e0 (.iconst 0) 1), (43, (.invokestatic 49, 3, 1, 216, 2, 73)), (46, e0 (.aload_n 0) 1), (47, (.getfield 20, 3, 0, 2, 1, 0))],
  [(50, e0 (.iload_n 3) 1), (51, e0 (.aload 4) 2), (53, (.getfield 55, 3, 1, 8, 0, 0)), (56, e0 .i2l 1), (57, e0 (.aload 4) 2), (59, (.invokevirtual 60, 3, 1, 26, 1, 33)), (62, e0 .i2l 1), (63, e0 .lmul 1)],
  [(64, e0 .lastore 1), (65, e0 (.aload_n 0) 1), (66, (.getfield 24, 3, 0, 3, 1, 0)), (69, e0 (.iload_n 3) 1), (70, e0 (.aload 4) 2), (72, (.getfield 55, 3, 1, 8, 0, 0)), (75, e0 .i2l 1), (76, e0 (.aload 4) 2), (78, (.invokevirtual 64, 3, 1, 27, 1, 33))],
  [(81, e0 .i2l 1), (82, e0 .lmul 1), (83, e0 .lastore 1), (84, e0 (.iinc 3 1) 3), (87, e0 (.goto (-75)) 3), (90, e0 (.bipush 6) 2), (92, e0 (.istore_n 3) 1), (93, e0 (.iload_n 3) 1), (94, e0 (.ifCond .lt 33) 3)],
  [(97, e0 (.iload_n 3) 1), (98, e0 (.aload_n 0) 1), (99, (.getfield 40, 3, 0, 6, 0, 0)), (102, (.invokestatic 67, 3, 1, 75, 2, 39)), (105, e0 (.ifCond .ne 6) 3), (108, e0 (.goto 13) 3), (111, e0 (.aload_n 0) 1)],
  [(112, e0 (.iload_n 3) 1), (113, (.invokevirtual 71, 3, 1, 2, 2, 112)), (116, e0 (.aload_n 0) 1), (117, e0 (.iload_n 3) 1), (118, (.invokevirtual 75, 3, 1, 5, 2, 80)), (121, e0 (.iinc 3 (-1)) 3), (124, e0 (.goto (-31)) 3), (127, e0 .return_ 1)]]
theorem ok_1 : okT 1 pT_1 = true := by decide +kernel
def pT_2 : MT := [[(0, e0 (.aload_n 0) 1), (1, (.getfield 36, 3, 0, 5, 2, 0)), (4, (.getfield 78, 3, 3, 1, 1, 0)), (7, e0 (.iload_n 1) 1), (8, e0 .aaload 1), (9, e0 (.astore_n 2) 1), (10, e0 (.aload_n 0) 1), (11, (.getfield 36, 3, 0, 5, 2, 0)), (14, e0 (.iload_n 1) 1), (15, e0 (.aload_n 0) 1)],
  [(16, (.getfield 40, 3, 0, 6, 0, 0)), (19, (.invokevirtual 81, 3, 1, 45, 3, 83)), (22, e0 (.istore_n 3) 1), (23, e0 (.iconst 0) 1), (24, e0 (.istore 4) 2), (26, e0 (.iconst 0) 1), (27, e0 (.istore 5) 2), (29, e0 (.iload 5) 2), (31, e0 (.bipush 7) 2)],
  [(33, e0 (.if_icmp .ge 27) 3), (36, e0 (.iload 5) 2), (38, e0 (.iload_n 3) 1), (39, (.invokestatic 67, 3, 1, 75, 2, 39)), (42, e0 (.ifCond .eq 12) 3), (45, e0 (.iload 4) 2), (47, e0 (.aload_n 2) 1)],
  [(48, e0 (.iload 5) 2), (50, e0 .iaload 1), (51, e0 .iadd 1), (52, e0 (.istore 4) 2), (54, e0 (.iinc 5 1) 3), (57, e0 (.goto (-28)) 3), (60, e0 (.iload 4) 2), (62, e0 (.ifCond .ne 4) 3)],
  [(65, e0 .return_ 1), (66, e0 (.aload_n 0) 1), (67, e0 (.iload_n 1) 1), (68, (.invokevirtual 85, 3, 1, 3, 2, 32)), (71, e0 (.istore 5) 2), (73, e0 (.iconst 0) 1), (74, e0 (.istore 6) 2), (76, e0 (.iload 6) 2), (78, e0 (.bipush 7) 2)],
  [(80, e0 (.if_icmp .ge 57) 3), (83, e0 (.iload 6) 2), (85, e0 (.iload_n 3) 1), (86, (.invokestatic 67, 3, 1, 75, 2, 39)), (89, e0 (.ifCond .ne 6) 3), (92, e0 (.goto 39) 3), (95, e0 (.aload_n 0) 1)],
  [(96, (.getfield 17, 3, 0, 1, 1, 0)), (99, e0 (.iload_n 1) 1), (100, e0 .aaload 1), (101, e0 (.iload 6) 2), (103, e0 (.aload_n 0) 1), (104, e0 (.iload_n 1) 1), (105, (.invokevirtual 85, 3, 1, 3, 2, 32)), (108, e0 (.aload_n 2) 1), (109, e0 (.iload 6) 2), (111, e0 .iaload 1)],
  [(112, e0 .imul 1), (113, e0 (.iload 4) 2), (115, e0 .idiv 1), (116, e0 .iastore 1), (117, e0 (.iload 5) 2), (119, e0 (.aload_n 0) 1), (120, (.getfield 17, 3, 0, 1, 1, 0)), (123, e0 (.iload_n 1) 1), (124, e0 .aaload 1), (125, e0 (.iload 6) 2), (127, e0 .iaload 1)],
  [(128, e0 .isub 1), (129, e0 (.istore 5) 2), (131, e0 (.iinc 6 1) 3), (134, e0 (.goto (-58)) 3), (137, e0 (.iconst 0) 1), (138, e0 (.istore 6) 2), (140, e0 (.iload 6) 2), (142, e0 (.bipush 7) 2)],
  [(144, e0 (.if_icmp .ge 49) 3), (147, e0 (.iload 6) 2), (149, e0 (.iload_n 3) 1), (150, (.invokestatic 67, 3, 1, 75, 2, 39)), (153, e0 (.ifCond .ne 6) 3), (156, e0 (.goto 31) 3), (159, e0 (.iload 5) 2)],
  [(161, e0 (.ifCond .le 16) 3), (164, e0 (.aload_n 0) 1), (165, (.getfield 17, 3, 0, 1, 1, 0)), (168, e0 (.iload_n 1) 1), (169, e0 .aaload 1), (170, e0 (.iload 6) 2), (172, e0 .dup2 1), (173, e0 .iaload 1), (174, e0 (.iconst 1) 1), (175, e0 .iadd 1)],
  [(176, e0 .iastore 1), (177, e0 (.iinc 5 (-1)) 3), (180, e0 (.aload_n 0) 1), (181, e0 (.iload 6) 2), (183, e0 (.iload_n 1) 1), (184, (.invokevirtual 89, 3, 1, 4, 3, 96)), (187, e0 (.iinc 6 1) 3), (190, e0 (.goto (-50)) 3)],
  [(193, e0 .return_ 1)]]
theorem ok_2 : okT 2 pT_2 = true := by decide +kernel
def pT_3 : MT := [[(0, e0 (.aload_n 0) 1), (1, (.getfield 36, 3, 0, 5, 2, 0)), (4, (.getfield 45, 3, 3, 0, 1, 0)), (7, e0 (.iload_n 1) 1), (8, e0 .aaload 1), (9, (.getfield 55, 3, 1, 8, 0, 0)), (12, e0 (.aload_n 0) 1), (13, (.getfield 9, 3, 0, 0, 1, 0))],
  [(16, e0 (.iload_n 1) 1), (17, e0 .iaload 1), (18, e0 .iadd 1), (19, (.ireturn, 1, 1, 0, 0, 0))]]
theorem ok_3 : okT 3 pT_3 = true := by decide +kernel
def pT_4 : MT := [[(0, e0 (.aload_n 0) 1), (1, (.getfield 36, 3, 0, 5, 2, 0)), (4, (.getfield 45, 3, 3, 0, 1, 0)), (7, e0 (.iload_n 1) 1), (8, e0 .aaload 1), (9, e0 (.astore_n 3) 1), (10, e0 (.aload_n 0) 1), (11, (.getfield 36, 3, 0, 5, 2, 0)), (14, (.getfield 45, 3, 3, 0, 1, 0))],
  [(17, e0 (.iload_n 2) 1), (18, e0 .aaload 1), (19, e0 (.astore 4) 2), (21, e0 (.aload_n 0) 1), (22, (.getfield 17, 3, 0, 1, 1, 0)), (25, e0 (.iload_n 2) 1), (26, e0 .aaload 1), (27, e0 (.iload_n 1) 1), (28, e0 .iaload 1), (29, e0 (.istore 5) 2), (31, e0 (.aload_n 0) 1)],
  [(32, (.getfield 9, 3, 0, 0, 1, 0)), (35, e0 (.iload_n 1) 1), (36, e0 .dup2 1), (37, e0 .iaload 1), (38, e0 (.iload 5) 2), (40, e0 .iadd 1), (41, e0 .iastore 1), (42, e0 (.aload_n 0) 1), (43, (.getfield 20, 3, 0, 2, 1, 0)), (46, e0 (.iload_n 1) 1), (47, e0 .dup2 1)],
  [(48, e0 .laload 1), (49, (.ldc2_w 93, 3, 1, 10, 0, 0)), (52, e0 (.iload 5) 2), (54, e0 .i2l 1), (55, e0 .lmul 1), (56, e0 (.aload_n 3) 1), (57, e0 (.aload 4) 2), (59, (.invokevirtual 95, 3, 1, 16, 2, 33)), (62, e0 (.aload_n 3) 1), (63, e0 (.aload 4) 2)],
  [(65, (.invokevirtual 99, 3, 1, 15, 2, 33)), (68, e0 .iadd 1), (69, e0 .i2l 1), (70, e0 .lmul 1), (71, e0 .ladd 1), (72, e0 .lastore 1), (73, e0 (.aload_n 0) 1), (74, (.getfield 24, 3, 0, 3, 1, 0)), (77, e0 (.iload_n 1) 1), (78, e0 .dup2 1), (79, e0 .laload 1)],
  [(80, (.ldc2_w 93, 3, 1, 10, 0, 0)), (83, e0 (.iload 5) 2), (85, e0 .i2l 1), (86, e0 .lmul 1), (87, e0 (.aload_n 3) 1), (88, e0 (.aload 4) 2), (90, (.invokevirtual 102, 3, 1, 18, 2, 33)), (93, e0 (.aload_n 3) 1), (94, e0 (.aload 4) 2)],
  [(96, (.invokevirtual 105, 3, 1, 17, 2, 33)), (99, e0 .iadd 1), (100, e0 .i2l 1), (101, e0 .lmul 1), (102, e0 .ladd 1), (103, e0 .lastore 1), (104, e0 .return_ 1)]]
theorem ok_4 : okT 4 pT_4 = true := by decide +kernel
def pT_5 : MT := [[(0, e0 (.aload_n 0) 1), (1, (.getfield 29, 3, 0, 4, 1, 0)), (4, e0 (.iload_n 1) 1), (5, e0 .aaload 1), (6, e0 (.astore_n 2) 1), (7, e0 (.aload_n 0) 1), (8, (.getfield 36, 3, 0, 5, 2, 0)), (11, (.getfield 45, 3, 3, 0, 1, 0)), (14, e0 (.iload_n 1) 1), (15, e0 .aaload 1)],
  [(16, e0 (.astore_n 3) 1), (17, e0 (.aload_n 2) 1), (18, (.invokevirtual 108, 3, 1, 50, 1, 20)), (21, e0 (.aload_n 3) 1), (22, (.invokevirtual 111, 3, 1, 28, 1, 17)), (25, e0 (.ifCond .eq 9) 3), (28, e0 (.aload_n 2) 1), (29, e0 (.aload_n 3) 1), (30, e0 (.aload_n 3) 1), (31, (.invokevirtual 115, 3, 1, 51, 3, 68))],
  [(34, e0 (.iconst 0) 1), (35, e0 (.istore 4) 2), (37, e0 (.iload 4) 2), (39, e0 (.bipush 7) 2), (41, e0 (.if_icmp .ge 51) 3), (44, e0 (.iload 4) 2), (46, e0 (.aload_n 0) 1), (47, (.getfield 40, 3, 0, 6, 0, 0))],
  [(50, (.invokestatic 67, 3, 1, 75, 2, 39)), (53, e0 (.ifCond .eq 33) 3), (56, e0 (.aload_n 0) 1), (57, (.getfield 36, 3, 0, 5, 2, 0)), (60, (.getfield 78, 3, 3, 1, 1, 0)), (63, e0 (.iload_n 1) 1)],
  [(64, e0 .aaload 1), (65, e0 (.iload 4) 2), (67, e0 .iaload 1), (68, e0 (.ifCond .le 18) 3), (71, e0 (.aload_n 2) 1), (72, e0 (.aload_n 3) 1), (73, e0 (.aload_n 0) 1), (74, (.getfield 36, 3, 0, 5, 2, 0)), (77, (.getfield 45, 3, 3, 0, 1, 0))],
  [(80, e0 (.iload 4) 2), (82, e0 .aaload 1), (83, (.invokevirtual 115, 3, 1, 51, 3, 68)), (86, e0 (.iinc 4 1) 3), (89, e0 (.goto (-52)) 3), (92, e0 (.aload_n 2) 1), (93, (.invokevirtual 119, 3, 1, 52, 1, 68))],
  [(96, e0 .return_ 1)]]
theorem ok_5 : okT 5 pT_5 = true := by decide +kernel
def pT_6 : MT := [[(0, e0 (.iconst 0) 1), (1, e0 (.istore_n 3) 1), (2, e0 (.iconst 0) 1), (3, e0 (.istore 4) 2), (5, e0 (.iload 4) 2), (7, e0 (.bipush 7) 2), (9, e0 (.if_icmp .ge 39) 3), (12, e0 (.iload 4) 2), (14, e0 (.aload_n 0) 1), (15, (.getfield 40, 3, 0, 6, 0, 0))],
  [(18, (.invokestatic 67, 3, 1, 75, 2, 39)), (21, e0 (.ifCond .eq 21) 3), (24, e0 (.aload_n 0) 1), (25, e0 (.iload 4) 2), (27, e0 (.iload_n 1) 1), (28, e0 (.iload_n 2) 1), (29, (.invokevirtual 149, 3, 1, 7, 4, 80))],
  [(32, e0 (.ifCond .eq 10) 3), (35, e0 (.iload_n 3) 1), (36, e0 (.iconst 1) 1), (37, e0 (.iload 4) 2), (39, e0 .ishl 1), (40, e0 .ior 1), (41, e0 (.istore_n 3) 1), (42, e0 (.iinc 4 1) 3), (45, e0 (.goto (-40)) 3)],
  [(48, e0 (.iload_n 3) 1), (49, (.ireturn, 1, 1, 0, 0, 0))]]
theorem ok_6 : okT 6 pT_6 = true := by decide +kernel
def pT_7 : MT := [[(0, e0 (.aload_n 0) 1), (1, (.getfield 36, 3, 0, 5, 2, 0)), (4, (.getfield 45, 3, 3, 0, 1, 0)), (7, e0 (.iload_n 1) 1), (8, e0 .aaload 1), (9, e0 (.astore 4) 2), (11, e0 (.aload_n 0) 1), (12, (.getfield 29, 3, 0, 4, 1, 0)), (15, e0 (.iload_n 1) 1)],
  [(16, e0 .aaload 1), (17, (.getfield 136, 3, 4, 5, 0, 0)), (20, e0 (.ifCond .ne 5) 3), (23, e0 (.iconst 1) 1), (24, (.ireturn, 1, 1, 0, 0, 0)), (25, e0 (.aload_n 0) 1), (26, (.getfield 9, 3, 0, 0, 1, 0)), (29, e0 (.iload_n 1) 1), (30, e0 .iaload 1), (31, e0 (.aload 4) 2)],
  [(33, (.invokevirtual 139, 3, 1, 21, 1, 17)), (36, e0 (.if_icmp .le 5) 3), (39, e0 (.iconst 2) 1), (40, (.ireturn, 1, 1, 0, 0, 0)), (41, e0 (.aload_n 0) 1), (42, e0 (.iload_n 1) 1), (43, e0 (.iload_n 2) 1), (44, e0 (.iload_n 3) 1), (45, (.invokevirtual 142, 3, 1, 8, 4, 176))],
  [(48, e0 (.ifCond .ne 5) 3), (51, e0 (.iconst 3) 1), (52, (.ireturn, 1, 1, 0, 0, 0)), (53, e0 (.iload_n 3) 1), (54, e0 (.aload 4) 2), (56, (.invokevirtual 146, 3, 1, 22, 1, 17)), (59, e0 (.if_icmp .le 7) 3), (62, e0 (.iconst 4) 1), (63, e0 (.goto 4) 3)],
  [(66, e0 (.iconst 0) 1), (67, (.ireturn, 1, 1, 0, 0, 0))]]
theorem ok_7 : okT 7 pT_7 = true := by decide +kernel
def pT_8 : MT := [[(0, e0 (.aload_n 0) 1), (1, (.getfield 36, 3, 0, 5, 2, 0)), (4, (.getfield 45, 3, 3, 0, 1, 0)), (7, e0 (.iload_n 1) 1), (8, e0 .aaload 1), (9, e0 (.astore 4) 2), (11, (.ldc2_w 93, 3, 1, 10, 0, 0)), (14, e0 (.aload_n 0) 1), (15, (.getfield 20, 3, 0, 2, 1, 0))],
  [(18, e0 (.iload_n 1) 1), (19, e0 .laload 1), (20, e0 .lmul 1), (21, e0 (.lstore 5) 2), (23, (.ldc2_w 93, 3, 1, 10, 0, 0)), (26, e0 (.aload_n 0) 1), (27, (.getfield 24, 3, 0, 3, 1, 0)), (30, e0 (.iload_n 1) 1), (31, e0 .laload 1)],
  [(32, e0 .lmul 1), (33, e0 (.lstore 7) 2), (35, e0 (.iload_n 3) 1), (36, e0 .i2l 1), (37, e0 (.aload 4) 2), (39, (.getfield 125, 3, 1, 7, 0, 0)), (42, e0 .i2l 1), (43, e0 .lmul 1), (44, e0 (.aload 4) 2), (46, (.getfield 55, 3, 1, 8, 0, 0))],
  [(49, e0 .i2l 1), (50, (.ldc2_w 128, 3, 1, 2, 0, 0)), (53, e0 (.aload_n 0) 1), (54, (.getfield 9, 3, 0, 0, 1, 0)), (57, e0 (.iload_n 1) 1), (58, e0 .iaload 1), (59, e0 .i2l 1), (60, e0 .lmul 1), (61, e0 .ladd 1), (62, e0 .lmul 1), (63, e0 (.lstore 9) 2)],
  [(65, e0 (.iload_n 2) 1), (66, e0 (.tableswitch 56 0 2 #[26, 36, 46]) 26)],
  [(92, e0 (.lload 5) 2), (94, e0 (.lload 9) 2)],
  [(96, e0 .ladd 1), (97, e0 (.lstore 5) 2), (99, e0 (.goto 30) 3), (102, e0 (.lload 5) 2), (104, e0 (.lload 9) 2), (106, e0 .lsub 1), (107, e0 (.lstore 5) 2), (109, e0 (.goto 20) 3)],
  [(112, e0 (.lload 7) 2), (114, e0 (.lload 9) 2), (116, e0 .ladd 1), (117, e0 (.lstore 7) 2), (119, e0 (.goto 10) 3), (122, e0 (.lload 7) 2), (124, e0 (.lload 9) 2), (126, e0 .lsub 1), (127, e0 (.lstore 7) 2)],
  [(129, e0 (.aload_n 0) 1), (130, (.getfield 29, 3, 0, 4, 1, 0)), (133, e0 (.iload_n 1) 1), (134, e0 .aaload 1), (135, e0 (.lload 5) 2), (137, e0 (.lload 7) 2), (139, (.ldc2_w 130, 3, 1, 200, 0, 0)), (142, e0 (.aload_n 0) 1), (143, e0 (.iload_n 1) 1)],
  [(144, (.invokevirtual 85, 3, 1, 3, 2, 32)), (147, e0 .i2l 1), (148, e0 .lmul 1), (149, (.invokevirtual 132, 3, 1, 54, 4, 260)), (152, (.ireturn, 1, 1, 0, 0, 0))]]
theorem ok_8 : okT 8 pT_8 = true := by decide +kernel
def pT_9 : MT := [[(0, e0 (.aload_n 0) 1), (1, (.getfield 36, 3, 0, 5, 2, 0)), (4, (.getfield 45, 3, 3, 0, 1, 0)), (7, e0 (.iload_n 1) 1), (8, e0 .aaload 1), (9, (.invokevirtual 111, 3, 1, 28, 1, 17)), (12, e0 (.ifCond .eq 11) 3), (15, e0 (.aload_n 0) 1)],
  [(16, e0 (.iload_n 1) 1), (17, (.invokevirtual 85, 3, 1, 3, 2, 32)), (20, e0 (.goto 4) 3), (23, e0 (.iconst 0) 1), (24, (.ireturn, 1, 1, 0, 0, 0))]]
theorem ok_9 : okT 9 pT_9 = true := by decide +kernel
def pT_10 : MT := [[(0, e0 (.iconst 0) 1), (1, e0 (.istore_n 2) 1), (2, e0 (.iconst 0) 1), (3, e0 (.istore_n 3) 1), (4, e0 (.iload_n 3) 1), (5, e0 (.bipush 7) 2), (7, e0 (.if_icmp .ge 37) 3), (10, e0 (.iload_n 3) 1), (11, e0 (.aload_n 0) 1), (12, (.getfield 40, 3, 0, 6, 0, 0)), (15, (.invokestatic 67, 3, 1, 75, 2, 39))],
  [(18, e0 (.ifCond .eq 20) 3), (21, e0 (.aload_n 0) 1), (22, e0 (.iload_n 3) 1), (23, e0 (.iconst 0) 1), (24, e0 (.iconst 0) 1), (25, (.invokevirtual 149, 3, 1, 7, 4, 80)), (28, e0 (.iload_n 1) 1), (29, e0 (.if_icmp .ne 9) 3)],
  [(32, e0 (.iload_n 2) 1), (33, e0 (.iconst 1) 1), (34, e0 (.iload_n 3) 1), (35, e0 .ishl 1), (36, e0 .ior 1), (37, e0 (.istore_n 2) 1), (38, e0 (.iinc 3 1) 3), (41, e0 (.goto (-37)) 3), (44, e0 (.iload_n 2) 1), (45, (.ireturn, 1, 1, 0, 0, 0))]]
theorem ok_10 : okT 10 pT_10 = true := by decide +kernel
def pT_11 : MT := [[(0, e0 (.aload_n 0) 1), (1, (.getfield 36, 3, 0, 5, 2, 0)), (4, e0 (.iload_n 1) 1), (5, e0 (.aload_n 0) 1), (6, (.getfield 40, 3, 0, 6, 0, 0)), (9, (.invokevirtual 152, 3, 1, 43, 3, 83)), (12, e0 (.istore_n 2) 1), (13, e0 (.iconst (-1)) 1), (14, e0 (.istore_n 3) 1), (15, e0 (.iconst 0) 1)],
  [(16, e0 (.istore 4) 2), (18, e0 (.iload 4) 2), (20, e0 (.bipush 7) 2), (22, e0 (.if_icmp .ge 49) 3), (25, e0 (.iload 4) 2), (27, e0 (.iload_n 2) 1), (28, (.invokestatic 67, 3, 1, 75, 2, 39)), (31, e0 (.ifCond .ne 6) 3)],
  [(34, e0 (.goto 31) 3), (37, e0 (.iload_n 3) 1), (38, e0 (.iconst (-1)) 1), (39, e0 (.if_icmp .eq 23) 3), (42, e0 (.aload_n 0) 1), (43, (.getfield 17, 3, 0, 1, 1, 0)), (46, e0 (.iload 4) 2)],
  [(48, e0 .aaload 1), (49, e0 (.iload_n 1) 1), (50, e0 .iaload 1), (51, e0 (.aload_n 0) 1), (52, (.getfield 17, 3, 0, 1, 1, 0)), (55, e0 (.iload_n 3) 1), (56, e0 .aaload 1), (57, e0 (.iload_n 1) 1), (58, e0 .iaload 1), (59, e0 (.if_icmp .le 6) 3), (62, e0 (.iload 4) 2)],
  [(64, e0 (.istore_n 3) 1), (65, e0 (.iinc 4 1) 3), (68, e0 (.goto (-50)) 3), (71, e0 (.iload_n 3) 1), (72, (.ireturn, 1, 1, 0, 0, 0))]]
theorem ok_11 : okT 11 pT_11 = true := by decide +kernel
def pT_12 : MT := [[(0, e0 (.iconst 0) 1), (1, e0 (.istore_n 1) 1), (2, e0 (.iconst 0) 1), (3, e0 (.istore_n 2) 1), (4, e0 (.iload_n 2) 1), (5, e0 (.bipush 7) 2), (7, e0 (.if_icmp .ge 28) 3), (10, e0 (.iload_n 2) 1), (11, e0 (.aload_n 0) 1), (12, (.getfield 40, 3, 0, 6, 0, 0)), (15, (.invokestatic 67, 3, 1, 75, 2, 39))],
  [(18, e0 (.ifCond .eq 11) 3), (21, e0 (.iload_n 1) 1), (22, e0 (.aload_n 0) 1), (23, e0 (.iload_n 2) 1), (24, (.invokevirtual 122, 3, 1, 9, 2, 32)), (27, e0 .iadd 1), (28, e0 (.istore_n 1) 1), (29, e0 (.iinc 2 1) 3)],
  [(32, e0 (.goto (-28)) 3), (35, e0 (.iload_n 1) 1), (36, (.ireturn, 1, 1, 0, 0, 0))]]
theorem ok_12 : okT 12 pT_12 = true := by decide +kernel
def pT_13 : MT := [[(0, e0 (.aload_n 0) 1), (1, (.invokespecial 3, 3, 2, 1, 0, 0)), (4, e0 .return_ 1)]]
theorem ok_13 : okT 13 pT_13 = true := by decide +kernel
def pT_14 : MT := [[(0, e0 (.aload_n 0) 1), (1, e0 (.aload_n 1) 1), (2, (.invokevirtual 50, 3, 1, 15, 2, 33)), (5, e0 (.aload_n 0) 1), (6, e0 (.aload_n 1) 1), (7, (.invokevirtual 53, 3, 1, 16, 2, 33)), (10, e0 .isub 1), (11, e0 (.istore_n 2) 1), (12, e0 (.aload_n 0) 1), (13, e0 (.aload_n 1) 1), (14, (.invokevirtual 43, 3, 1, 17, 2, 33))],
  [(17, e0 (.aload_n 0) 1), (18, e0 (.aload_n 1) 1), (19, (.invokevirtual 39, 3, 1, 18, 2, 33)), (22, e0 .isub 1), (23, e0 (.istore_n 3) 1), (24, e0 (.iload_n 2) 1), (25, e0 (.ifCond .le 13) 3), (28, e0 (.iload_n 3) 1), (29, e0 (.ifCond .le 9) 3)],
  [(32, e0 (.iload_n 2) 1), (33, e0 (.iload_n 3) 1), (34, e0 .imul 1), (35, e0 (.goto 4) 3), (38, e0 (.iconst 0) 1), (39, (.ireturn, 1, 1, 0, 0, 0))]]
theorem ok_14 : okT 14 pT_14 = true := by decide +kernel
def pT_15 : MT := [[(0, e0 (.aload_n 0) 1), (1, (.getfield 18, 3, 1, 2, 0, 0)), (4, e0 (.aload_n 0) 1), (5, (.getfield 27, 3, 1, 5, 0, 0)), (8, e0 .iadd 1), (9, e0 (.aload_n 1) 1), (10, (.getfield 18, 3, 1, 2, 0, 0)), (13, e0 (.aload_n 1) 1), (14, (.getfield 27, 3, 1, 5, 0, 0))],
  [(17, e0 .iadd 1), (18, e0 (.if_icmp .ge 15) 3), (21, e0 (.aload_n 0) 1), (22, (.getfield 18, 3, 1, 2, 0, 0)), (25, e0 (.aload_n 0) 1), (26, (.getfield 27, 3, 1, 5, 0, 0)), (29, e0 .iadd 1), (30, e0 (.goto 12) 3)],
  [(33, e0 (.aload_n 1) 1), (34, (.getfield 18, 3, 1, 2, 0, 0)), (37, e0 (.aload_n 1) 1), (38, (.getfield 27, 3, 1, 5, 0, 0)), (41, e0 .iadd 1), (42, (.ireturn, 1, 1, 0, 0, 0))]]
theorem ok_15 : okT 15 pT_15 = true := by decide +kernel
def pT_16 : MT := [[(0, e0 (.aload_n 0) 1), (1, (.getfield 18, 3, 1, 2, 0, 0)), (4, e0 (.aload_n 1) 1), (5, (.getfield 18, 3, 1, 2, 0, 0)), (8, e0 (.if_icmp .le 10) 3), (11, e0 (.aload_n 0) 1), (12, (.getfield 18, 3, 1, 2, 0, 0)), (15, e0 (.goto 7) 3)],
  [(18, e0 (.aload_n 1) 1), (19, (.getfield 18, 3, 1, 2, 0, 0)), (22, (.ireturn, 1, 1, 0, 0, 0))]]
theorem ok_16 : okT 16 pT_16 = true := by decide +kernel
def pT_17 : MT := [[(0, e0 (.aload_n 0) 1), (1, (.getfield 21, 3, 1, 3, 0, 0)), (4, e0 (.aload_n 0) 1), (5, (.getfield 30, 3, 1, 6, 0, 0)), (8, e0 .iadd 1), (9, e0 (.aload_n 1) 1), (10, (.getfield 21, 3, 1, 3, 0, 0)), (13, e0 (.aload_n 1) 1), (14, (.getfield 30, 3, 1, 6, 0, 0))],
  [(17, e0 .iadd 1), (18, e0 (.if_icmp .ge 15) 3), (21, e0 (.aload_n 0) 1), (22, (.getfield 21, 3, 1, 3, 0, 0)), (25, e0 (.aload_n 0) 1), (26, (.getfield 30, 3, 1, 6, 0, 0)), (29, e0 .iadd 1), (30, e0 (.goto 12) 3)],
  [(33, e0 (.aload_n 1) 1), (34, (.getfield 21, 3, 1, 3, 0, 0)), (37, e0 (.aload_n 1) 1), (38, (.getfield 30, 3, 1, 6, 0, 0)), (41, e0 .iadd 1), (42, (.ireturn, 1, 1, 0, 0, 0))]]
theorem ok_17 : okT 17 pT_17 = true := by decide +kernel
def pT_18 : MT := [[(0, e0 (.aload_n 0) 1), (1, (.getfield 21, 3, 1, 3, 0, 0)), (4, e0 (.aload_n 1) 1), (5, (.getfield 21, 3, 1, 3, 0, 0)), (8, e0 (.if_icmp .le 10) 3), (11, e0 (.aload_n 0) 1), (12, (.getfield 21, 3, 1, 3, 0, 0)), (15, e0 (.goto 7) 3)],
  [(18, e0 (.aload_n 1) 1), (19, (.getfield 21, 3, 1, 3, 0, 0)), (22, (.ireturn, 1, 1, 0, 0, 0))]]
theorem ok_18 : okT 18 pT_18 = true := by decide +kernel
def pT_19 : MT := [[(0, e0 (.aload_n 0) 1), (1, (.getfield 24, 3, 1, 4, 0, 0)), (4, e0 (.aload_n 0) 1), (5, (.getfield 33, 3, 1, 7, 0, 0)), (8, e0 .iadd 1), (9, (.ireturn, 1, 1, 0, 0, 0))]]
theorem ok_19 : okT 19 pT_19 = true := by decide +kernel
def pT_20 : MT := [[(0, e0 (.bipush 100) 2), (2, e0 (.aload_n 0) 1), (3, (.getfield 27, 3, 1, 5, 0, 0)), (6, e0 .imul 1), (7, e0 (.bipush 10) 2), (9, e0 (.aload_n 0) 1), (10, (.getfield 30, 3, 1, 6, 0, 0)), (13, e0 .imul 1), (14, e0 .iadd 1), (15, e0 (.aload_n 0) 1)],
  [(16, (.getfield 33, 3, 1, 7, 0, 0)), (19, e0 .iadd 1), (20, (.ireturn, 1, 1, 0, 0, 0))]]
theorem ok_20 : okT 20 pT_20 = true := by decide +kernel
def pT_21 : MT := [[(0, e0 (.aload_n 0) 1), (1, (.getfield 9, 3, 1, 0, 0, 0)), (4, e0 (.tableswitch 72 1 5 #[36, 54, 44, 68, 54]) 36)],
  [],
  [(40, e0 (.bipush 20) 2), (42, e0 (.aload_n 0) 1), (43, (.getfield 15, 3, 1, 1, 0, 0)), (46, e0 .imul 1), (47, (.ireturn, 1, 1, 0, 0, 0))],
  [(48, e0 (.bipush 20) 2), (50, e0 (.aload_n 0) 1), (51, (.getfield 15, 3, 1, 1, 0, 0)), (54, e0 .imul 1), (55, e0 (.iconst 2) 1), (56, e0 .idiv 1), (57, (.ireturn, 1, 1, 0, 0, 0)), (58, e0 (.iconst 2) 1), (59, e0 (.sipush 600) 3), (62, e0 (.bipush 100) 2)],
  [(64, e0 (.aload_n 0) 1), (65, (.getfield 15, 3, 1, 1, 0, 0)), (68, e0 .imul 1), (69, e0 .iadd 1), (70, e0 .imul 1), (71, (.ireturn, 1, 1, 0, 0, 0)), (72, e0 (.sipush 300) 3), (75, (.ireturn, 1, 1, 0, 0, 0)), (76, e0 (.sipush 600) 3), (79, e0 (.bipush 100) 2)],
  [(81, e0 (.aload_n 0) 1), (82, (.getfield 15, 3, 1, 1, 0, 0)), (85, e0 .imul 1), (86, e0 .iadd 1), (87, (.ireturn, 1, 1, 0, 0, 0))]]
theorem ok_21 : okT 21 pT_21 = true := by decide +kernel
def pT_22 : MT := [[(0, e0 (.aload_n 0) 1), (1, (.getfield 9, 3, 1, 0, 0, 0)), (4, e0 (.tableswitch 58 2 5 #[35, 32, 51, 43]) 32)],
  [],
  [(36, e0 (.bipush 50) 2), (38, (.ireturn, 1, 1, 0, 0, 0)), (39, e0 (.bipush 60) 2), (41, e0 (.aload_n 0) 1), (42, (.getfield 15, 3, 1, 1, 0, 0)), (45, e0 .iadd 1), (46, (.ireturn, 1, 1, 0, 0, 0)), (47, e0 (.bipush 80) 2)],
  [(49, e0 (.aload_n 0) 1), (50, (.getfield 15, 3, 1, 1, 0, 0)), (53, e0 .iadd 1), (54, (.ireturn, 1, 1, 0, 0, 0)), (55, e0 (.iconst 5) 1), (56, e0 (.aload_n 0) 1), (57, (.getfield 15, 3, 1, 1, 0, 0)), (60, e0 .iadd 1), (61, (.ireturn, 1, 1, 0, 0, 0)), (62, e0 (.bipush 60) 2)],
  [(64, (.ireturn, 1, 1, 0, 0, 0))]]
theorem ok_22 : okT 22 pT_22 = true := by decide +kernel
def pT_23 : MT := [[(0, e0 (.aload_n 0) 1), (1, (.getfield 9, 3, 1, 0, 0, 0)), (4, e0 (.istore_n 2) 1), (5, e0 (.iconst 0) 1), (6, e0 (.istore_n 3) 1), (7, e0 (.iload_n 3) 1), (8, e0 (.bipush 6) 2), (10, e0 (.if_icmp .ge 34) 3), (13, e0 (.iload_n 2) 1), (14, e0 (.ifCond .lt 30) 3)],
  [(17, e0 (.iload_n 2) 1), (18, e0 (.getstatic 60) 3), (21, e0 .arraylength 1), (22, e0 (.if_icmp .ge 22) 3), (25, e0 (.iload_n 2) 1), (26, e0 (.iload_n 1) 1), (27, e0 (.if_icmp .ne 5) 3), (30, e0 (.iconst 1) 1), (31, (.ireturn, 1, 2, 0, 0, 0))],
  [(32, e0 (.getstatic 60) 3), (35, e0 (.iload_n 2) 1), (36, e0 .iaload 1), (37, e0 (.istore_n 2) 1), (38, e0 (.iinc 3 1) 3), (41, e0 (.goto (-34)) 3), (44, e0 (.iconst 0) 1), (45, (.ireturn, 1, 2, 0, 0, 0))]]
theorem ok_23 : okT 23 pT_23 = true := by decide +kernel
def pT_24 : MT := [[(0, e0 (.aload_n 0) 1), (1, e0 (.aload_n 1) 1), (2, (.invokevirtual 39, 3, 1, 18, 2, 33)), (5, e0 (.aload_n 0) 1), (6, e0 (.aload_n 1) 1), (7, (.invokevirtual 43, 3, 1, 17, 2, 33)), (10, e0 (.if_icmp .ge 7) 3), (13, e0 (.iconst 1) 1), (14, e0 (.goto 4) 3)],
  [(17, e0 (.iconst 0) 1), (18, (.ireturn, 1, 2, 0, 0, 0))]]
theorem ok_24 : okT 24 pT_24 = true := by decide +kernel
def pT_25 : MT := [[(0, e0 (.aload_n 0) 1), (1, (.getfield 24, 3, 1, 4, 0, 0)), (4, e0 (.aload_n 1) 1), (5, (.invokevirtual 46, 3, 1, 19, 1, 17)), (8, e0 (.if_icmp .ge 18) 3), (11, e0 (.aload_n 1) 1), (12, (.getfield 24, 3, 1, 4, 0, 0)), (15, e0 (.aload_n 0) 1)],
  [(16, (.invokevirtual 46, 3, 1, 19, 1, 17)), (19, e0 (.if_icmp .ge 7) 3), (22, e0 (.iconst 1) 1), (23, e0 (.goto 4) 3), (26, e0 (.iconst 0) 1), (27, (.ireturn, 1, 2, 0, 0, 0))]]
theorem ok_25 : okT 25 pT_25 = true := by decide +kernel
def pT_26 : MT := [[(0, e0 (.bipush 20) 2), (2, e0 (.aload_n 0) 1), (3, (.getfield 18, 3, 1, 2, 0, 0)), (6, e0 .imul 1), (7, e0 (.bipush 10) 2), (9, e0 (.aload_n 0) 1), (10, (.getfield 27, 3, 1, 5, 0, 0)), (13, e0 .imul 1), (14, e0 .iadd 1), (15, e0 (.istore_n 1) 1)],
  [(16, e0 (.aload_n 0) 1), (17, (.getfield 9, 3, 1, 0, 0, 0)), (20, e0 (.iconst 2) 1), (21, e0 (.if_icmp .ne 15) 3), (24, e0 (.iload_n 1) 1), (25, e0 (.aload_n 0) 1), (26, (.getfield 15, 3, 1, 1, 0, 0)), (29, e0 (.aload_n 0) 1), (30, (.getfield 27, 3, 1, 5, 0, 0))],
  [(33, e0 .imul 1), (34, e0 .iadd 1), (35, (.ireturn, 1, 1, 0, 0, 0)), (36, e0 (.aload_n 0) 1), (37, (.getfield 9, 3, 1, 0, 0, 0)), (40, e0 (.iconst 5) 1), (41, e0 (.if_icmp .ne 17) 3), (44, e0 (.iload_n 1) 1), (45, e0 (.aload_n 0) 1), (46, (.getfield 15, 3, 1, 1, 0, 0))],
  [(49, e0 (.aload_n 0) 1), (50, (.getfield 27, 3, 1, 5, 0, 0)), (53, e0 .imul 1), (54, e0 .isub 1), (55, e0 (.goto 4) 3), (58, e0 (.iload_n 1) 1), (59, (.ireturn, 1, 1, 0, 0, 0))]]
theorem ok_26 : okT 26 pT_26 = true := by decide +kernel
