/-! ===== more instructions ===== -/
def pT_52 : MT := [[(0, e0 (.aload_n 0) 1), (1, (.getfield 24, 3, 4, 4, 0, 0)), (4, e0 (.ifCond .ne 4) 3), (7, e0 .return_ 1), (8, e0 (.iconst 0) 1), (9, e0 (.istore_n 1) 1), (10, e0 (.iconst 1) 1), (11, e0 (.istore_n 2) 1), (12, e0 (.iload_n 2) 1), (13, e0 (.aload_n 0) 1), (14, (.getfield 24, 3, 4, 4, 0, 0))],
  [(17, e0 (.if_icmp .ge 66) 3), (20, e0 (.aload_n 0) 1), (21, (.getfield 9, 3, 4, 0, 1, 0)), (24, e0 (.iload_n 2) 1), (25, e0 .iaload 1), (26, e0 (.aload_n 0) 1), (27, (.getfield 9, 3, 4, 0, 1, 0)), (30, e0 (.iload_n 1) 1), (31, e0 .iaload 1)],
  [(32, e0 (.if_icmp .ge 7) 3), (35, e0 (.iconst 1) 1), (36, e0 (.goto 4) 3), (39, e0 (.iconst 0) 1), (40, e0 (.istore_n 3) 1), (41, e0 (.iload_n 3) 1), (42, e0 (.ifCond .ne 33) 3), (45, e0 (.aload_n 0) 1), (46, (.getfield 9, 3, 4, 0, 1, 0))],
  [(49, e0 (.iload_n 2) 1), (50, e0 .iaload 1), (51, e0 (.aload_n 0) 1), (52, (.getfield 9, 3, 4, 0, 1, 0)), (55, e0 (.iload_n 1) 1), (56, e0 .iaload 1), (57, e0 (.if_icmp .ne 20) 3), (60, e0 (.aload_n 0) 1), (61, (.getfield 15, 3, 4, 1, 1, 0))],
  [(64, e0 (.iload_n 2) 1), (65, e0 .iaload 1), (66, e0 (.aload_n 0) 1), (67, (.getfield 15, 3, 4, 1, 1, 0)), (70, e0 (.iload_n 1) 1), (71, e0 .iaload 1), (72, e0 (.if_icmp .ge 5) 3), (75, e0 (.iload_n 2) 1), (76, e0 (.istore_n 1) 1), (77, e0 (.iinc 2 1) 3)],
  [(80, e0 (.goto (-68)) 3), (83, e0 (.iload_n 1) 1), (84, e0 (.istore_n 2) 1), (85, e0 (.aload_n 0) 1), (86, (.getfield 28, 3, 4, 5, 0, 0)), (89, e0 (.aload_n 0) 1), (90, (.getfield 24, 3, 4, 4, 0, 0)), (93, e0 (.if_icmp .ge 80) 3)],
  [(96, e0 (.aload_n 0) 1), (97, (.getfield 18, 3, 4, 2, 1, 0)), (100, e0 (.aload_n 0) 1), (101, (.getfield 28, 3, 4, 5, 0, 0)), (104, e0 (.aload_n 0) 1), (105, (.getfield 9, 3, 4, 0, 1, 0)), (108, e0 (.iload_n 2) 1), (109, e0 .iaload 1), (110, e0 .iastore 1), (111, e0 (.aload_n 0) 1)],
  [(112, (.getfield 21, 3, 4, 3, 1, 0)), (115, e0 (.aload_n 0) 1), (116, (.getfield 28, 3, 4, 5, 0, 0)), (119, e0 (.aload_n 0) 1), (120, (.getfield 15, 3, 4, 1, 1, 0)), (123, e0 (.iload_n 2) 1), (124, e0 .iaload 1), (125, e0 .iastore 1), (126, e0 (.aload_n 0) 1), (127, e0 .dup 1)],
  [(128, (.getfield 28, 3, 4, 5, 0, 0)), (131, e0 (.iconst 1) 1), (132, e0 .iadd 1), (133, (.putfield 28, 3, 4, 5, 0, 0)), (136, e0 (.aload_n 0) 1), (137, e0 (.iload_n 2) 1), (138, (.invokevirtual 46, 3, 1, 53, 2, 164)), (141, e0 (.istore_n 2) 1), (142, e0 (.aload_n 0) 1), (143, (.getfield 9, 3, 4, 0, 1, 0))],
  [(146, e0 (.iload_n 2) 1), (147, e0 .iaload 1), (148, e0 (.aload_n 0) 1), (149, (.getfield 9, 3, 4, 0, 1, 0)), (152, e0 (.iload_n 1) 1), (153, e0 .iaload 1), (154, e0 (.if_icmp .ne (-69)) 3), (157, e0 (.aload_n 0) 1), (158, (.getfield 15, 3, 4, 1, 1, 0))],
  [(161, e0 (.iload_n 2) 1), (162, e0 .iaload 1), (163, e0 (.aload_n 0) 1), (164, (.getfield 15, 3, 4, 1, 1, 0)), (167, e0 (.iload_n 1) 1), (168, e0 .iaload 1), (169, e0 (.if_icmp .ne (-84)) 3), (172, e0 .return_ 1), (173, e0 .return_ 1)]]
theorem ok_52 : okT 52 pT_52 = true := by decide +kernel
def pT_53 : MT := [[(0, e0 (.iload_n 1) 1), (1, e0 (.istore_n 2) 1), (2, e0 (.iconst 0) 1), (3, e0 (.istore_n 3) 1), (4, e0 (.iload_n 3) 1), (5, e0 (.aload_n 0) 1), (6, (.getfield 24, 3, 4, 4, 0, 0)), (9, e0 (.if_icmp .ge 131) 3), (12, e0 (.aload_n 0) 1), (13, (.getfield 9, 3, 4, 0, 1, 0))],
  [(16, e0 (.iload_n 2) 1), (17, e0 .iaload 1), (18, e0 (.aload_n 0) 1), (19, (.getfield 9, 3, 4, 0, 1, 0)), (22, e0 (.iload_n 1) 1), (23, e0 .iaload 1), (24, e0 .isub 1), (25, e0 (.istore 4) 2), (27, e0 (.aload_n 0) 1), (28, (.getfield 15, 3, 4, 1, 1, 0)), (31, e0 (.iload_n 2) 1)],
  [(32, e0 .iaload 1), (33, e0 (.aload_n 0) 1), (34, (.getfield 15, 3, 4, 1, 1, 0)), (37, e0 (.iload_n 1) 1), (38, e0 .iaload 1), (39, e0 .isub 1), (40, e0 (.istore 5) 2), (42, e0 (.aload_n 0) 1), (43, (.getfield 9, 3, 4, 0, 1, 0)), (46, e0 (.iload_n 3) 1), (47, e0 .iaload 1)],
  [(48, e0 (.aload_n 0) 1), (49, (.getfield 9, 3, 4, 0, 1, 0)), (52, e0 (.iload_n 1) 1), (53, e0 .iaload 1), (54, e0 .isub 1), (55, e0 (.istore 6) 2), (57, e0 (.aload_n 0) 1), (58, (.getfield 15, 3, 4, 1, 1, 0)), (61, e0 (.iload_n 3) 1), (62, e0 .iaload 1), (63, e0 (.aload_n 0) 1)],
  [(64, (.getfield 15, 3, 4, 1, 1, 0)), (67, e0 (.iload_n 1) 1), (68, e0 .iaload 1), (69, e0 .isub 1), (70, e0 (.istore 7) 2), (72, e0 (.iload 4) 2), (74, e0 (.iload 7) 2), (76, e0 .imul 1), (77, e0 (.iload 5) 2), (79, e0 (.iload 6) 2)],
  [(81, e0 .imul 1), (82, e0 .isub 1), (83, e0 (.istore 8) 2), (85, e0 (.iload 6) 2), (87, e0 (.iload 6) 2), (89, e0 .imul 1), (90, e0 (.iload 7) 2), (92, e0 (.iload 7) 2), (94, e0 .imul 1), (95, e0 .iadd 1)],
  [(96, e0 (.iload 4) 2), (98, e0 (.iload 4) 2), (100, e0 .imul 1), (101, e0 (.iload 5) 2), (103, e0 (.iload 5) 2), (105, e0 .imul 1), (106, e0 .iadd 1), (107, e0 (.if_icmp .le 7) 3), (110, e0 (.iconst 1) 1), (111, e0 (.goto 4) 3)],
  [(114, e0 (.iconst 0) 1), (115, e0 (.istore 9) 2), (117, e0 (.iload 8) 2), (119, e0 (.ifCond .lt 13) 3), (122, e0 (.iload 8) 2), (124, e0 (.ifCond .ne 10) 3), (127, e0 (.iload 9) 2)],
  [(129, e0 (.ifCond .eq 5) 3), (132, e0 (.iload_n 3) 1), (133, e0 (.istore_n 2) 1), (134, e0 (.iinc 3 1) 3), (137, e0 (.goto (-133)) 3), (140, e0 (.iload_n 2) 1), (141, (.ireturn, 1, 1, 0, 0, 0))]]
theorem ok_53 : okT 53 pT_53 = true := by decide +kernel
def pT_54 : MT := [[(0, e0 (.aload_n 0) 1), (1, (.getfield 28, 3, 4, 5, 0, 0)), (4, e0 (.ifCond .ne 7) 3), (7, e0 (.iconst 0) 1), (8, e0 (.goto 4) 3), (11, e0 (.iconst 2) 1), (12, e0 (.istore 7) 2), (14, e0 (.iconst 0) 1), (15, e0 (.istore 8) 2)],
  [(17, e0 (.iload 8) 2), (19, e0 (.aload_n 0) 1), (20, (.getfield 28, 3, 4, 5, 0, 0)), (23, e0 (.if_icmp .ge 120) 3), (26, e0 (.iload 8) 2), (28, e0 (.iconst 1) 1), (29, e0 .iadd 1), (30, e0 (.aload_n 0) 1), (31, (.getfield 28, 3, 4, 5, 0, 0))],
  [(34, e0 (.if_icmp .ge 10) 3), (37, e0 (.iload 8) 2), (39, e0 (.iconst 1) 1), (40, e0 .iadd 1), (41, e0 (.goto 4) 3), (44, e0 (.iconst 0) 1), (45, e0 (.istore 9) 2), (47, e0 (.aload_n 0) 1)],
  [(48, (.getfield 18, 3, 4, 2, 1, 0)), (51, e0 (.iload 9) 2), (53, e0 .iaload 1), (54, e0 (.aload_n 0) 1), (55, (.getfield 18, 3, 4, 2, 1, 0)), (58, e0 (.iload 8) 2), (60, e0 .iaload 1), (61, e0 .isub 1), (62, e0 .i2l 1), (63, e0 (.lstore 10) 2)],
  [(65, e0 (.aload_n 0) 1), (66, (.getfield 21, 3, 4, 3, 1, 0)), (69, e0 (.iload 9) 2), (71, e0 .iaload 1), (72, e0 (.aload_n 0) 1), (73, (.getfield 21, 3, 4, 3, 1, 0)), (76, e0 (.iload 8) 2), (78, e0 .iaload 1), (79, e0 .isub 1)],
  [(80, e0 .i2l 1), (81, e0 (.lstore 12) 2), (83, e0 (.lload 10) 2), (85, e0 (.lload_n 3) 1), (86, e0 (.aload_n 0) 1), (87, (.getfield 21, 3, 4, 3, 1, 0)), (90, e0 (.iload 8) 2), (92, e0 .iaload 1), (93, e0 .i2l 1), (94, e0 (.lload 5) 2)],
  [(96, e0 .lmul 1), (97, e0 .lsub 1), (98, e0 .lmul 1), (99, e0 (.lload 12) 2), (101, e0 (.lload_n 1) 1), (102, e0 (.aload_n 0) 1), (103, (.getfield 18, 3, 4, 2, 1, 0)), (106, e0 (.iload 8) 2), (108, e0 .iaload 1), (109, e0 .i2l 1), (110, e0 (.lload 5) 2)],
  [(112, e0 .lmul 1), (113, e0 .lsub 1), (114, e0 .lmul 1), (115, e0 .lsub 1), (116, e0 (.lstore 14) 2), (118, e0 (.lload 14) 2), (120, e0 (.lconst 0) 1), (121, e0 .lcmp 1), (122, e0 (.ifCond .ge 5) 3), (125, e0 (.iconst 0) 1), (126, (.ireturn, 1, 1, 0, 0, 0)), (127, e0 (.lload 14) 2)],
  [(129, e0 (.lconst 0) 1), (130, e0 .lcmp 1), (131, e0 (.ifCond .ne 6) 3), (134, e0 (.iconst 1) 1), (135, e0 (.istore 7) 2), (137, e0 (.iinc 8 1) 3), (140, e0 (.goto (-123)) 3), (143, e0 (.iload 7) 2)],
  [(145, (.ireturn, 1, 1, 0, 0, 0))]]
theorem ok_54 : okT 54 pT_54 = true := by decide +kernel
def pT_55 : MT := [[(0, e0 (.aload_n 0) 1), (1, (.invokespecial 3, 3, 2, 1, 0, 0)), (4, e0 (.aload_n 0) 1), (5, e0 (.bipush 40) 2), (7, e0 (.newarray .int) 2), (9, (.putfield 9, 3, 5, 0, 1, 0)), (12, e0 (.aload_n 0) 1), (13, e0 (.iconst (-1)) 1), (14, (.putfield 15, 3, 5, 1, 0, 0))],
  [(17, e0 (.aload_n 0) 1), (18, e0 (.iconst 0) 1), (19, (.putfield 19, 3, 5, 2, 0, 0)), (22, e0 .return_ 1)]]
theorem ok_55 : okT 55 pT_55 = true := by decide +kernel
def pT_56 : MT := [[(0, e0 (.aload_n 0) 1), (1, (.getfield 15, 3, 5, 1, 0, 0)), (4, e0 (.iconst (-1)) 1), (5, e0 (.if_icmp .ne 7) 3), (8, e0 (.iconst 1) 1), (9, e0 (.goto 4) 3), (12, e0 (.iconst 0) 1), (13, (.ireturn, 1, 2, 0, 0, 0))]]
theorem ok_56 : okT 56 pT_56 = true := by decide +kernel
def pT_57 : MT := [[(0, e0 (.aload_n 0) 1), (1, e0 (.iload_n 1) 1), (2, (.putfield 15, 3, 5, 1, 0, 0)), (5, e0 (.aload_n 0) 1), (6, e0 (.iload_n 2) 1), (7, (.putfield 19, 3, 5, 2, 0, 0)), (10, e0 (.aload_n 0) 1), (11, (.getfield 9, 3, 5, 0, 1, 0)), (14, e0 (.iconst 0) 1), (15, (.invokestatic 22, 3, 1, 216, 2, 73))],
  [(18, e0 .return_ 1)]]
theorem ok_57 : okT 57 pT_57 = true := by decide +kernel
def pT_58 : MT := [[(0, e0 (.iload_n 1) 1), (1, e0 (.ifCond .lt 29) 3), (4, e0 (.iload_n 2) 1), (5, e0 (.ifCond .lt 25) 3), (8, e0 (.iload_n 1) 1), (9, e0 (.aload_n 0) 1), (10, (.getfield 19, 3, 5, 2, 0, 0)), (13, e0 (.if_icmp .gt 17) 3)],
  [(16, e0 (.iload_n 2) 1), (17, e0 (.aload_n 0) 1), (18, (.getfield 19, 3, 5, 2, 0, 0)), (21, e0 (.iload_n 1) 1), (22, e0 .isub 1), (23, e0 (.if_icmp .gt 7) 3), (26, e0 (.iconst 1) 1), (27, e0 (.goto 4) 3), (30, e0 (.iconst 0) 1), (31, (.ireturn, 1, 2, 0, 0, 0))]]
theorem ok_58 : okT 58 pT_58 = true := by decide +kernel
def pT_59 : MT := [[(0, e0 (.aload_n 0) 1), (1, (.invokespecial 3, 3, 2, 1, 0, 0)), (4, e0 (.aload_n 0) 1), (5, e0 (.bipush 60) 2), (7, e0 (.newarray .int) 2), (9, (.putfield 9, 3, 6, 0, 1, 0)), (12, e0 (.aload_n 0) 1), (13, e0 (.iconst 0) 1), (14, (.putfield 15, 3, 6, 1, 0, 0))],
  [(17, e0 (.aload_n 0) 1), (18, e0 (.bipush 13) 2), (20, e0 (.newarray .int) 2), (22, (.putfield 19, 3, 6, 2, 1, 0)), (25, e0 (.aload_n 0) 1), (26, e0 (.bipush 13) 2), (28, e0 (.iconst 5) 1), (29, e0 (.multianewarray 22 2) 4)],
  [(33, (.putfield 24, 3, 6, 3, 1, 0)), (36, e0 (.aload_n 0) 1), (37, e0 (.iconst 0) 1), (38, (.putfield 27, 3, 6, 4, 0, 0)), (41, e0 (.aload_n 0) 1), (42, e0 (.iconst 0) 1), (43, (.putfield 30, 3, 6, 5, 0, 0)), (46, e0 (.aload_n 0) 1), (47, e0 (.iconst 0) 1)],
  [(48, (.putfield 33, 3, 6, 6, 0, 0)), (51, e0 (.aload_n 0) 1), (52, e0 (.iconst 0) 1), (53, (.putfield 36, 3, 6, 7, 0, 0)), (56, e0 (.aload_n 0) 1), (57, e0 (.iconst 0) 1), (58, (.putfield 39, 3, 6, 8, 0, 0)), (61, e0 .return_ 1)]]
theorem ok_59 : okT 59 pT_59 = true := by decide +kernel
def pT_60 : MT := [[(0, e0 (.aload_n 0) 1), (1, (.getfield 15, 3, 6, 1, 0, 0)), (4, e0 (.aload_n 0) 1), (5, (.getfield 9, 3, 6, 0, 1, 0)), (8, e0 .arraylength 1), (9, e0 (.if_icmp .ge 20) 3), (12, e0 (.aload_n 0) 1), (13, (.getfield 9, 3, 6, 0, 1, 0))],
  [(16, e0 (.aload_n 0) 1), (17, e0 .dup 1), (18, (.getfield 15, 3, 6, 1, 0, 0)), (21, e0 .dup_x1 1), (22, e0 (.iconst 1) 1), (23, e0 .iadd 1), (24, (.putfield 15, 3, 6, 1, 0, 0)), (27, e0 (.iload_n 1) 1), (28, e0 .iastore 1), (29, e0 .return_ 1)]]
theorem ok_60 : okT 60 pT_60 = true := by decide +kernel
def pT_61 : MT := [[(0, e0 (.aload_n 0) 1), (1, e0 (.iconst 0) 1), (2, (.putfield 39, 3, 6, 8, 0, 0)), (5, e0 (.aload_n 0) 1), (6, e0 (.iconst 0) 1), (7, (.putfield 27, 3, 6, 4, 0, 0)), (10, e0 (.aload_n 0) 1), (11, (.getfield 27, 3, 6, 4, 0, 0)), (14, e0 (.bipush 13) 2)],
  [(16, e0 (.if_icmp .ge 51) 3), (19, e0 (.aload_n 0) 1), (20, (.invokevirtual 42, 3, 1, 62, 1, 54)), (23, e0 (.ifCond .ne 8) 3), (26, e0 (.aload_n 0) 1), (27, (.getfield 33, 3, 6, 6, 0, 0)), (30, (.ireturn, 1, 1, 0, 0, 0)), (31, e0 (.aload_n 0) 1)],
  [(32, e0 .dup 1), (33, (.getfield 27, 3, 6, 4, 0, 0)), (36, e0 (.iconst 1) 1), (37, e0 .iadd 1), (38, (.putfield 27, 3, 6, 4, 0, 0)), (41, e0 (.aload_n 0) 1), (42, (.invokevirtual 46, 3, 1, 63, 1, 22)), (45, e0 (.aload_n 0) 1), (46, (.getfield 30, 3, 6, 5, 0, 0))],
  [(49, e0 (.ifCond .ne 5) 3), (52, e0 (.iconst (-1)) 1), (53, (.ireturn, 1, 1, 0, 0, 0)), (54, e0 (.aload_n 0) 1), (55, (.getfield 30, 3, 6, 5, 0, 0)), (58, e0 (.iconst 3) 1), (59, e0 (.if_icmp .eq (-49)) 3), (62, e0 (.aload_n 0) 1), (63, (.getfield 33, 3, 6, 6, 0, 0))],
  [(66, (.ireturn, 1, 1, 0, 0, 0)), (67, e0 (.aload_n 0) 1), (68, (.getfield 15, 3, 6, 1, 0, 0)), (71, (.ireturn, 1, 1, 0, 0, 0))]]
theorem ok_61 : okT 61 pT_61 = true := by decide +kernel
def pT_62 : MT := [[(0, e0 (.aload_n 0) 1), (1, (.invokevirtual 46, 3, 1, 63, 1, 22)), (4, e0 (.aload_n 0) 1), (5, (.getfield 30, 3, 6, 5, 0, 0)), (8, e0 (.iconst 1) 1), (9, e0 (.if_icmp .ne 11) 3), (12, e0 (.aload_n 0) 1), (13, (.getfield 36, 3, 6, 7, 0, 0))],
  [(16, e0 (.iconst (-1)) 1), (17, e0 (.if_icmp .ne 5) 3), (20, e0 (.iconst 0) 1), (21, (.ireturn, 1, 2, 0, 0, 0)), (22, e0 (.aload_n 0) 1), (23, (.getfield 19, 3, 6, 2, 1, 0)), (26, e0 (.aload_n 0) 1), (27, (.getfield 27, 3, 6, 4, 0, 0)), (30, e0 (.aload_n 0) 1), (31, (.getfield 36, 3, 6, 7, 0, 0))],
  [(34, e0 .iastore 1), (35, e0 (.getstatic 49) 3), (38, e0 (.aload_n 0) 1), (39, (.getfield 36, 3, 6, 7, 0, 0)), (42, e0 .iaload 1), (43, e0 (.istore_n 1) 1), (44, e0 (.iconst 0) 1), (45, e0 (.istore_n 2) 1), (46, e0 (.iload_n 2) 1), (47, e0 (.iload_n 1) 1)],
  [(48, e0 (.if_icmp .ge 38) 3), (51, e0 (.aload_n 0) 1), (52, (.invokevirtual 46, 3, 1, 63, 1, 22)), (55, e0 (.aload_n 0) 1), (56, (.getfield 30, 3, 6, 5, 0, 0)), (59, e0 (.iconst 2) 1), (60, e0 (.if_icmp .eq 5) 3), (63, e0 (.iconst 0) 1)],
  [(64, (.ireturn, 1, 2, 0, 0, 0)), (65, e0 (.aload_n 0) 1), (66, (.getfield 24, 3, 6, 3, 1, 0)), (69, e0 (.aload_n 0) 1), (70, (.getfield 27, 3, 6, 4, 0, 0)), (73, e0 .aaload 1), (74, e0 (.iload_n 2) 1), (75, e0 (.aload_n 0) 1), (76, (.getfield 36, 3, 6, 7, 0, 0)), (79, e0 .iastore 1)],
  [(80, e0 (.iinc 2 1) 3), (83, e0 (.goto (-37)) 3), (86, e0 (.iconst 1) 1), (87, (.ireturn, 1, 2, 0, 0, 0))]]
theorem ok_62 : okT 62 pT_62 = true := by decide +kernel
def pT_63 : MT := [[(0, e0 (.aload_n 0) 1), (1, (.getfield 39, 3, 6, 8, 0, 0)), (4, e0 (.aload_n 0) 1), (5, (.getfield 15, 3, 6, 1, 0, 0)), (8, e0 (.if_icmp .ge 44) 3), (11, e0 (.aload_n 0) 1), (12, (.getfield 9, 3, 6, 0, 1, 0)), (15, e0 (.aload_n 0) 1)],
  [(16, (.getfield 39, 3, 6, 8, 0, 0)), (19, e0 .iaload 1), (20, e0 (.bipush 32) 2), (22, e0 (.if_icmp .eq 17) 3), (25, e0 (.aload_n 0) 1), (26, (.getfield 9, 3, 6, 0, 1, 0)), (29, e0 (.aload_n 0) 1), (30, (.getfield 39, 3, 6, 8, 0, 0))],
  [(33, e0 .iaload 1), (34, e0 (.bipush 10) 2), (36, e0 (.if_icmp .ne 16) 3), (39, e0 (.aload_n 0) 1), (40, e0 .dup 1), (41, (.getfield 39, 3, 6, 8, 0, 0)), (44, e0 (.iconst 1) 1), (45, e0 .iadd 1), (46, (.putfield 39, 3, 6, 8, 0, 0))],
  [(49, e0 (.goto (-49)) 3), (52, e0 (.aload_n 0) 1), (53, e0 (.aload_n 0) 1), (54, (.getfield 39, 3, 6, 8, 0, 0)), (57, (.putfield 33, 3, 6, 6, 0, 0)), (60, e0 (.aload_n 0) 1), (61, (.getfield 39, 3, 6, 8, 0, 0))],
  [(64, e0 (.aload_n 0) 1), (65, (.getfield 15, 3, 6, 1, 0, 0)), (68, e0 (.if_icmp .lt 11) 3), (71, e0 (.aload_n 0) 1), (72, e0 (.iconst 0) 1), (73, (.putfield 30, 3, 6, 5, 0, 0)), (76, e0 (.goto 80) 3), (79, e0 (.aload_n 0) 1)],
  [(80, (.getfield 9, 3, 6, 0, 1, 0)), (83, e0 (.aload_n 0) 1), (84, (.getfield 39, 3, 6, 8, 0, 0)), (87, e0 .iaload 1), (88, (.invokestatic 52, 3, 1, 64, 1, 22)), (91, e0 (.ifCond .eq 10) 3), (94, e0 (.aload_n 0) 1), (95, (.invokevirtual 56, 3, 1, 65, 1, 22))],
  [(98, e0 (.goto 58) 3), (101, e0 (.aload_n 0) 1), (102, (.getfield 9, 3, 6, 0, 1, 0)), (105, e0 (.aload_n 0) 1), (106, (.getfield 39, 3, 6, 8, 0, 0)), (109, e0 .iaload 1), (110, (.invokestatic 59, 3, 1, 67, 1, 22))],
  [(113, e0 (.ifCond .eq 10) 3), (116, e0 (.aload_n 0) 1), (117, (.invokevirtual 62, 3, 1, 68, 1, 22)), (120, e0 (.goto 36) 3), (123, e0 (.aload_n 0) 1), (124, e0 (.aload_n 0) 1), (125, (.getfield 9, 3, 6, 0, 1, 0))],
  [(128, e0 (.aload_n 0) 1), (129, (.getfield 39, 3, 6, 8, 0, 0)), (132, e0 .iaload 1), (133, e0 (.bipush 59) 2), (135, e0 (.if_icmp .ne 7) 3), (138, e0 (.iconst 3) 1), (139, e0 (.goto 4) 3), (142, e0 (.iconst 4) 1), (143, (.putfield 30, 3, 6, 5, 0, 0))],
  [(146, e0 (.aload_n 0) 1), (147, e0 .dup 1), (148, (.getfield 39, 3, 6, 8, 0, 0)), (151, e0 (.iconst 1) 1), (152, e0 .iadd 1), (153, (.putfield 39, 3, 6, 8, 0, 0)), (156, e0 .return_ 1)]]
theorem ok_63 : okT 63 pT_63 = true := by decide +kernel
def pT_64 : MT := [[(0, e0 (.iload_n 0) 1), (1, e0 (.bipush 97) 2), (3, e0 (.if_icmp .lt 13) 3), (6, e0 (.iload_n 0) 1), (7, e0 (.bipush 122) 2), (9, e0 (.if_icmp .gt 7) 3), (12, e0 (.iconst 1) 1), (13, e0 (.goto 4) 3)],
  [(16, e0 (.iconst 0) 1), (17, (.ireturn, 1, 2, 0, 0, 0))]]
theorem ok_64 : okT 64 pT_64 = true := by decide +kernel
def pT_65 : MT := [[(0, e0 (.aload_n 0) 1), (1, (.getfield 39, 3, 6, 8, 0, 0)), (4, e0 (.aload_n 0) 1), (5, (.getfield 15, 3, 6, 1, 0, 0)), (8, e0 (.if_icmp .ge 31) 3), (11, e0 (.aload_n 0) 1), (12, (.getfield 9, 3, 6, 0, 1, 0)), (15, e0 (.aload_n 0) 1)],
  [(16, (.getfield 39, 3, 6, 8, 0, 0)), (19, e0 .iaload 1), (20, (.invokestatic 52, 3, 1, 64, 1, 22)), (23, e0 (.ifCond .eq 16) 3), (26, e0 (.aload_n 0) 1), (27, e0 .dup 1), (28, (.getfield 39, 3, 6, 8, 0, 0)), (31, e0 (.iconst 1) 1)],
  [(32, e0 .iadd 1), (33, (.putfield 39, 3, 6, 8, 0, 0)), (36, e0 (.goto (-36)) 3), (39, e0 (.aload_n 0) 1), (40, e0 (.iconst 1) 1), (41, (.putfield 30, 3, 6, 5, 0, 0)), (44, e0 (.aload_n 0) 1), (45, e0 (.iconst (-1)) 1), (46, (.putfield 36, 3, 6, 7, 0, 0))],
  [(49, e0 (.aload_n 0) 1), (50, (.ldc 65, 2, 9, 0, 0, 0)), (52, (.invokevirtual 67, 3, 1, 66, 2, 54)), (55, e0 (.ifCond .eq 8) 3), (58, e0 (.aload_n 0) 1), (59, e0 (.iconst 0) 1), (60, (.putfield 36, 3, 6, 7, 0, 0)), (63, e0 (.aload_n 0) 1)],
  [(64, (.ldc 71, 2, 9, 0, 0, 0)), (66, (.invokevirtual 67, 3, 1, 66, 2, 54)), (69, e0 (.ifCond .eq 8) 3), (72, e0 (.aload_n 0) 1), (73, e0 (.iconst 1) 1), (74, (.putfield 36, 3, 6, 7, 0, 0)), (77, e0 (.aload_n 0) 1), (78, (.ldc 73, 2, 9, 0, 0, 0))],
  [(80, (.invokevirtual 67, 3, 1, 66, 2, 54)), (83, e0 (.ifCond .eq 8) 3), (86, e0 (.aload_n 0) 1), (87, e0 (.iconst 2) 1), (88, (.putfield 36, 3, 6, 7, 0, 0)), (91, e0 (.aload_n 0) 1), (92, (.ldc 75, 2, 9, 0, 0, 0)), (94, (.invokevirtual 67, 3, 1, 66, 2, 54))],
  [(97, e0 (.ifCond .eq 8) 3), (100, e0 (.aload_n 0) 1), (101, e0 (.iconst 3) 1), (102, (.putfield 36, 3, 6, 7, 0, 0)), (105, e0 .return_ 1)]]
theorem ok_65 : okT 65 pT_65 = true := by decide +kernel
def pT_66 : MT := [[(0, e0 (.aload_n 1) 1), (1, (.invokevirtual 77, 3, 1, 218, 1, 28)), (4, e0 (.aload_n 0) 1), (5, (.getfield 39, 3, 6, 8, 0, 0)), (8, e0 (.aload_n 0) 1), (9, (.getfield 33, 3, 6, 6, 0, 0)), (12, e0 .isub 1), (13, e0 (.if_icmp .eq 5) 3)],
  [(16, e0 (.iconst 0) 1), (17, (.ireturn, 1, 2, 0, 0, 0)), (18, e0 (.iconst 0) 1), (19, e0 (.istore_n 2) 1), (20, e0 (.iload_n 2) 1), (21, e0 (.aload_n 1) 1), (22, (.invokevirtual 77, 3, 1, 218, 1, 28)), (25, e0 (.if_icmp .ge 30) 3), (28, e0 (.aload_n 0) 1), (29, (.getfield 9, 3, 6, 0, 1, 0))],
  [(32, e0 (.aload_n 0) 1), (33, (.getfield 33, 3, 6, 6, 0, 0)), (36, e0 (.iload_n 2) 1), (37, e0 .iadd 1), (38, e0 .iaload 1), (39, e0 (.aload_n 1) 1), (40, e0 (.iload_n 2) 1), (41, (.invokevirtual 83, 3, 1, 220, 2, 44)), (44, e0 (.if_icmp .eq 5) 3), (47, e0 (.iconst 0) 1)],
  [(48, (.ireturn, 1, 2, 0, 0, 0)), (49, e0 (.iinc 2 1) 3), (52, e0 (.goto (-32)) 3), (55, e0 (.iconst 1) 1), (56, (.ireturn, 1, 2, 0, 0, 0))]]
theorem ok_66 : okT 66 pT_66 = true := by decide +kernel
def pT_67 : MT := [[(0, e0 (.iload_n 0) 1), (1, e0 (.bipush 48) 2), (3, e0 (.if_icmp .lt 13) 3), (6, e0 (.iload_n 0) 1), (7, e0 (.bipush 57) 2), (9, e0 (.if_icmp .gt 7) 3), (12, e0 (.iconst 1) 1), (13, e0 (.goto 4) 3)],
  [(16, e0 (.iconst 0) 1), (17, (.ireturn, 1, 2, 0, 0, 0))]]
theorem ok_67 : okT 67 pT_67 = true := by decide +kernel
def pT_68 : MT := [[(0, e0 (.aload_n 0) 1), (1, e0 (.iconst 0) 1), (2, (.putfield 36, 3, 6, 7, 0, 0)), (5, e0 (.aload_n 0) 1), (6, (.getfield 39, 3, 6, 8, 0, 0)), (9, e0 (.aload_n 0) 1), (10, (.getfield 15, 3, 6, 1, 0, 0)), (13, e0 (.if_icmp .ge 55) 3)],
  [(16, e0 (.aload_n 0) 1), (17, (.getfield 9, 3, 6, 0, 1, 0)), (20, e0 (.aload_n 0) 1), (21, (.getfield 39, 3, 6, 8, 0, 0)), (24, e0 .iaload 1), (25, (.invokestatic 59, 3, 1, 67, 1, 22)), (28, e0 (.ifCond .eq 40) 3), (31, e0 (.aload_n 0) 1)],
  [(32, e0 (.bipush 10) 2), (34, e0 (.aload_n 0) 1), (35, (.getfield 36, 3, 6, 7, 0, 0)), (38, e0 .imul 1), (39, e0 (.aload_n 0) 1), (40, (.getfield 9, 3, 6, 0, 1, 0)), (43, e0 (.aload_n 0) 1), (44, (.getfield 39, 3, 6, 8, 0, 0)), (47, e0 .iaload 1)],
  [(48, e0 .iadd 1), (49, e0 (.bipush 48) 2), (51, e0 .isub 1), (52, (.putfield 36, 3, 6, 7, 0, 0)), (55, e0 (.aload_n 0) 1), (56, e0 .dup 1), (57, (.getfield 39, 3, 6, 8, 0, 0)), (60, e0 (.iconst 1) 1), (61, e0 .iadd 1), (62, (.putfield 39, 3, 6, 8, 0, 0))],
  [(65, e0 (.goto (-60)) 3), (68, e0 (.aload_n 0) 1), (69, e0 (.aload_n 0) 1), (70, (.getfield 39, 3, 6, 8, 0, 0)), (73, e0 (.aload_n 0) 1), (74, (.getfield 33, 3, 6, 6, 0, 0)), (77, e0 .isub 1), (78, e0 (.iconst 3) 1), (79, e0 (.if_icmp .gt 7) 3)],
  [(82, e0 (.iconst 2) 1), (83, e0 (.goto 4) 3), (86, e0 (.iconst 4) 1), (87, (.putfield 30, 3, 6, 5, 0, 0)), (90, e0 .return_ 1)]]
theorem ok_68 : okT 68 pT_68 = true := by decide +kernel
def pT_69 : MT := [[(0, e0 (.aload_n 0) 1), (1, (.invokespecial 5, 3, 2, 1, 0, 0)), (4, e0 (.aload_n 0) 1), (5, e0 (.new 11) 3), (8, e0 .dup 1), (9, (.invokespecial 13, 3, 1, 37, 1, 35)), (12, (.putfield 14, 3, 7, 0, 1, 0)), (15, e0 (.aload_n 0) 1)],
  [(16, e0 (.new 11) 3), (19, e0 .dup 1), (20, (.invokespecial 13, 3, 1, 37, 1, 35)), (23, (.putfield 18, 3, 7, 1, 1, 0)), (26, e0 (.aload_n 0) 1), (27, e0 (.new 11) 3), (30, e0 .dup 1), (31, (.invokespecial 13, 3, 1, 37, 1, 35))],
  [(34, (.putfield 21, 3, 7, 2, 1, 0)), (37, e0 (.aload_n 0) 1), (38, e0 (.new 24) 3), (41, e0 .dup 1), (42, (.invokespecial 26, 3, 1, 0, 1, 32)), (45, (.putfield 27, 3, 7, 3, 1, 0))],
  [(48, e0 (.aload_n 0) 1), (49, e0 (.new 31) 3), (52, e0 .dup 1), (53, (.invokespecial 33, 3, 1, 31, 1, 18)), (56, (.putfield 34, 3, 7, 4, 1, 0)), (59, e0 (.aload_n 0) 1), (60, e0 (.new 38) 3), (63, e0 .dup 1)],
  [(64, (.invokespecial 40, 3, 1, 59, 1, 22)), (67, (.putfield 41, 3, 7, 5, 1, 0)), (70, e0 (.aload_n 0) 1), (71, e0 (.iconst 4) 1), (72, e0 (.anewarray 45) 3), (75, (.putfield 47, 3, 7, 6, 1, 0)), (78, e0 (.aload_n 0) 1), (79, e0 (.iconst 0) 1)],
  [(80, (.putfield 51, 3, 7, 7, 0, 1)), (83, e0 (.iconst 0) 1), (84, e0 (.istore_n 1) 1), (85, e0 (.iload_n 1) 1), (86, e0 (.aload_n 0) 1), (87, (.getfield 47, 3, 7, 6, 1, 0)), (90, e0 .arraylength 1), (91, e0 (.if_icmp .ge 22) 3), (94, e0 (.aload_n 0) 1), (95, (.getfield 47, 3, 7, 6, 1, 0))],
  [(98, e0 (.iload_n 1) 1), (99, e0 (.new 45) 3), (102, e0 .dup 1), (103, (.invokespecial 55, 3, 1, 55, 1, 21)), (106, e0 .aastore 1), (107, e0 (.iinc 1 1) 3), (110, e0 (.goto (-25)) 3)],
  [(113, e0 .return_ 1)]]
theorem ok_69 : okT 69 pT_69 = true := by decide +kernel
def pT_70 : MT := [[(0, e0 (.aload_n 0) 1), (1, (.getfield 14, 3, 7, 0, 1, 0)), (4, e0 (.iload_n 1) 1), (5, e0 (.iload_n 2) 1), (6, e0 (.iload_n 3) 1), (7, e0 (.iload 4) 2), (9, e0 (.iload 5) 2), (11, (.invokevirtual 56, 3, 1, 38, 6, 147)), (14, (.ireturn, 1, 1, 0, 0, 0))]]
theorem ok_70 : okT 70 pT_70 = true := by decide +kernel
def pT_71 : MT := [[(0, e0 (.iload_n 0) 1), (1, e0 (.ifCond .lt 13) 3), (4, e0 (.iload_n 0) 1), (5, e0 (.bipush 6) 2), (7, e0 (.if_icmp .ge 7) 3), (10, e0 (.iconst 1) 1), (11, e0 (.goto 4) 3), (14, e0 (.iconst 0) 1), (15, (.ireturn, 1, 2, 0, 0, 0))]]
theorem ok_71 : okT 71 pT_71 = true := by decide +kernel
def pT_72 : MT := [[(0, e0 (.iload_n 0) 1), (1, e0 (.bipush 100) 2), (3, e0 .idiv 1), (4, (.invokestatic 324, 3, 1, 73, 1, 23)), (7, e0 (.ifCond .eq 30) 3), (10, e0 (.iload_n 0) 1), (11, e0 (.bipush 10) 2), (13, e0 .idiv 1), (14, e0 (.bipush 10) 2)],
  [(16, e0 .irem 1), (17, (.invokestatic 324, 3, 1, 73, 1, 23)), (20, e0 (.ifCond .eq 17) 3), (23, e0 (.iload_n 0) 1), (24, e0 (.bipush 10) 2), (26, e0 .irem 1), (27, (.invokestatic 324, 3, 1, 73, 1, 23)), (30, e0 (.ifCond .eq 7) 3)],
  [(33, e0 (.iconst 1) 1), (34, e0 (.goto 4) 3), (37, e0 (.iconst 0) 1), (38, (.ireturn, 1, 2, 0, 0, 0))]]
theorem ok_72 : okT 72 pT_72 = true := by decide +kernel
def pT_73 : MT := [[(0, e0 (.iload_n 0) 1), (1, e0 (.iconst 1) 1), (2, e0 (.if_icmp .lt 12) 3), (5, e0 (.iload_n 0) 1), (6, e0 (.iconst 4) 1), (7, e0 (.if_icmp .gt 7) 3), (10, e0 (.iconst 1) 1), (11, e0 (.goto 4) 3), (14, e0 (.iconst 0) 1), (15, (.ireturn, 1, 2, 0, 0, 0))]]
theorem ok_73 : okT 73 pT_73 = true := by decide +kernel
def pT_74 : MT := [[(0, e0 (.lload_n 0) 1), (1, e0 (.lconst 1) 1), (2, e0 .lcmp 1), (3, e0 (.ifCond .lt 15) 3), (6, e0 (.lload_n 0) 1), (7, (.ldc2_w 322, 3, 1, 999, 0, 0)), (10, e0 .lcmp 1), (11, e0 (.ifCond .gt 7) 3), (14, e0 (.iconst 1) 1), (15, e0 (.goto 4) 3)],
  [(18, e0 (.iconst 0) 1), (19, (.ireturn, 1, 2, 0, 0, 0))]]
theorem ok_74 : okT 74 pT_74 = true := by decide +kernel
def pT_75 : MT := [[(0, e0 (.iload_n 1) 1), (1, e0 (.iload_n 0) 1), (2, e0 .ishr 1), (3, e0 (.iconst 1) 1), (4, e0 .iand 1), (5, e0 (.iconst 1) 1), (6, e0 (.if_icmp .ne 7) 3), (9, e0 (.iconst 1) 1), (10, e0 (.goto 4) 3), (13, e0 (.iconst 0) 1), (14, (.ireturn, 1, 2, 0, 0, 0))]]
theorem ok_75 : okT 75 pT_75 = true := by decide +kernel
def pT_76 : MT := [[(0, e0 (.aload_n 0) 1), (1, (.getfield 14, 3, 7, 0, 1, 0)), (4, e0 (.iload_n 1) 1), (5, (.invokevirtual 60, 3, 1, 41, 2, 35)), (8, e0 (.ifCond .ne 6) 3), (11, e0 (.bipush (-2)) 2), (13, (.ireturn, 1, 1, 0, 0, 0)), (14, e0 (.aload_n 0) 1), (15, (.getfield 14, 3, 7, 0, 1, 0))],
  [(18, (.getfield 64, 3, 3, 0, 1, 0)), (21, e0 (.iload_n 1) 1), (22, e0 .aaload 1), (23, e0 (.astore_n 3) 1), (24, e0 (.iload_n 2) 1), (25, e0 (.tableswitch 117 0 9 #[55, 60, 65, 70, 75, 80, 85, 90, 107, 112]) 55)],
  [],
  [],
  [],
  [(80, e0 (.aload_n 3) 1), (81, (.getfield 68, 3, 1, 0, 0, 0)), (84, (.ireturn, 1, 1, 0, 0, 0)), (85, e0 (.aload_n 3) 1), (86, (.getfield 74, 3, 1, 1, 0, 0)), (89, (.ireturn, 1, 1, 0, 0, 0)), (90, e0 (.aload_n 3) 1), (91, (.getfield 77, 3, 1, 2, 0, 0)), (94, (.ireturn, 1, 1, 0, 0, 0)), (95, e0 (.aload_n 3) 1)],
  [(96, (.getfield 80, 3, 1, 3, 0, 0)), (99, (.ireturn, 1, 1, 0, 0, 0)), (100, e0 (.aload_n 3) 1), (101, (.getfield 83, 3, 1, 4, 0, 0)), (104, (.ireturn, 1, 1, 0, 0, 0)), (105, e0 (.aload_n 3) 1), (106, (.invokevirtual 86, 3, 1, 20, 1, 17)), (109, (.ireturn, 1, 1, 0, 0, 0)), (110, e0 (.aload_n 3) 1), (111, (.getfield 90, 3, 1, 8, 0, 0))],
  [(114, (.ireturn, 1, 1, 0, 0, 0)), (115, e0 (.aload_n 0) 1), (116, (.getfield 14, 3, 7, 0, 1, 0)), (119, e0 (.iload_n 1) 1), (120, (.invokevirtual 93, 3, 1, 42, 2, 35)), (123, e0 (.ifCond .eq 7) 3), (126, e0 (.iconst 0) 1), (127, e0 (.goto 4) 3)],
  [(130, e0 (.iconst 1) 1), (131, (.ireturn, 1, 1, 0, 0, 0)), (132, e0 (.aload_n 3) 1), (133, (.invokevirtual 96, 3, 1, 21, 1, 17)), (136, (.ireturn, 1, 1, 0, 0, 0)), (137, e0 (.aload_n 3) 1), (138, (.invokevirtual 99, 3, 1, 22, 1, 17)), (141, (.ireturn, 1, 1, 0, 0, 0)), (142, e0 (.bipush (-2)) 2)],
  [(144, (.ireturn, 1, 1, 0, 0, 0))]]
theorem ok_76 : okT 76 pT_76 = true := by decide +kernel
