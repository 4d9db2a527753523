/-! ===== more instructions ===== -/
def pT_125 : MT := [[(0, e0 (.iload_n 0) 1), (1, e0 (.iload_n 1) 1), (2, e0 (.if_icmp .lt 12) 3), (5, e0 (.iload_n 0) 1), (6, e0 (.iload_n 2) 1), (7, e0 (.if_icmp .gt 7) 3), (10, e0 (.iconst 1) 1), (11, e0 (.goto 4) 3), (14, e0 (.iconst 0) 1), (15, (.ireturn, 1, 2, 0, 0, 0))]]
theorem ok_125 : okT 125 pT_125 = true := by decide +kernel
def pT_126 : MT := [[(0, e0 (.iload_n 0) 1), (1, e0 (.bipush 111) 2), (3, e0 (.sipush 444) 3), (6, (.invokestatic 67, 3, 1, 125, 3, 56)), (9, e0 (.ifCond .eq 42) 3), (12, e0 (.iload_n 0) 1), (13, e0 (.bipush 10) 2), (15, e0 .idiv 1)],
  [(16, e0 (.bipush 10) 2), (18, e0 .irem 1), (19, e0 (.iconst 1) 1), (20, e0 (.iconst 4) 1), (21, (.invokestatic 67, 3, 1, 125, 3, 56)), (24, e0 (.ifCond .eq 27) 3), (27, e0 (.iload_n 0) 1), (28, e0 (.bipush 10) 2), (30, e0 .irem 1), (31, e0 (.iconst 1) 1)],
  [(32, e0 (.iconst 4) 1), (33, (.invokestatic 67, 3, 1, 125, 3, 56)), (36, e0 (.ifCond .eq 15) 3), (39, e0 (.iload_n 0) 1), (40, e0 (.bipush 100) 2), (42, e0 .idiv 1), (43, e0 (.iconst 5) 1), (44, e0 (.if_icmp .ge 7) 3), (47, e0 (.iconst 1) 1)],
  [(48, e0 (.goto 4) 3), (51, e0 (.iconst 0) 1), (52, (.ireturn, 1, 2, 0, 0, 0))]]
theorem ok_126 : okT 126 pT_126 = true := by decide +kernel
def pT_127 : MT := [[(0, e0 (.aload_n 0) 1), (1, (.getfield 9, 3, 8, 0, 1, 0)), (4, e0 (.iconst 2) 1), (5, e0 (.iload_n 1) 1), (6, e0 .iadd 1), (7, e0 (.iload_n 2) 1), (8, e0 .iastore 1), (9, e0 (.aload_n 0) 1), (10, (.getfield 9, 3, 8, 0, 1, 0)), (13, e0 (.bipush 10) 2), (15, e0 (.iload_n 1) 1)],
  [(16, e0 .iadd 1), (17, e0 (.iconst 0) 1), (18, e0 .iastore 1), (19, e0 (.aload_n 0) 1), (20, (.getfield 9, 3, 8, 0, 1, 0)), (23, e0 (.bipush 18) 2), (25, e0 (.iload_n 1) 1), (26, e0 .iadd 1), (27, e0 (.iload_n 3) 1), (28, e0 .iastore 1), (29, e0 (.aload_n 0) 1), (30, (.getfield 9, 3, 8, 0, 1, 0))],
  [(33, e0 (.bipush 26) 2), (35, e0 (.iload_n 1) 1), (36, e0 .iadd 1), (37, e0 (.iload 4) 2), (39, e0 .iastore 1), (40, e0 (.aload_n 0) 1), (41, (.getfield 9, 3, 8, 0, 1, 0)), (44, e0 (.bipush 42) 2), (46, e0 (.iload_n 1) 1), (47, e0 .iadd 1)],
  [(48, e0 (.iload 5) 2), (50, e0 (.bipush 100) 2), (52, e0 .idiv 1), (53, e0 .iastore 1), (54, e0 (.aload_n 0) 1), (55, (.getfield 9, 3, 8, 0, 1, 0)), (58, e0 (.bipush 50) 2), (60, e0 (.iload_n 1) 1), (61, e0 .iadd 1), (62, e0 (.iload 5) 2)],
  [(64, e0 (.bipush 10) 2), (66, e0 .idiv 1), (67, e0 (.bipush 10) 2), (69, e0 .irem 1), (70, e0 .iastore 1), (71, e0 (.aload_n 0) 1), (72, (.getfield 9, 3, 8, 0, 1, 0)), (75, e0 (.bipush 58) 2), (77, e0 (.iload_n 1) 1), (78, e0 .iadd 1), (79, e0 (.iload 5) 2)],
  [(81, e0 (.bipush 10) 2), (83, e0 .irem 1), (84, e0 .iastore 1), (85, e0 (.iload_n 1) 1), (86, e0 (.bipush 7) 2), (88, e0 (.if_icmp .ge 14) 3), (91, e0 (.aload_n 0) 1), (92, (.getfield 9, 3, 8, 0, 1, 0)), (95, e0 (.bipush 66) 2)],
  [(97, e0 (.iload_n 1) 1), (98, e0 .iadd 1), (99, e0 (.iload 6) 2), (101, e0 .iastore 1), (102, e0 (.aload_n 0) 1), (103, (.getfield 9, 3, 8, 0, 1, 0)), (106, e0 (.bipush 34) 2), (108, e0 (.iload_n 1) 1), (109, e0 .iadd 1), (110, e0 (.iconst 0) 1), (111, e0 .iastore 1)],
  [(112, e0 (.iconst 0) 1), (113, e0 (.istore 7) 2), (115, e0 (.iload 7) 2), (117, e0 (.iload_n 1) 1), (118, e0 (.if_icmp .ge 58) 3), (121, e0 (.aload_n 0) 1), (122, (.invokevirtual 75, 3, 1, 128, 1, 24)), (125, e0 (.iload 7) 2), (127, (.invokestatic 79, 3, 1, 129, 2, 40))],
  [(130, e0 (.ifCond .eq 40) 3), (133, e0 (.aload_n 0) 1), (134, e0 (.iload 7) 2), (136, e0 (.iload_n 1) 1), (137, (.invokevirtual 98, 3, 1, 130, 3, 56)), (140, e0 (.ifCond .le 30) 3), (143, e0 (.aload_n 0) 1)],
  [(144, (.getfield 9, 3, 8, 0, 1, 0)), (147, e0 (.bipush 34) 2), (149, e0 (.iload_n 1) 1), (150, e0 .iadd 1), (151, e0 (.aload_n 0) 1), (152, (.getfield 9, 3, 8, 0, 1, 0)), (155, e0 (.bipush 34) 2), (157, e0 (.iload_n 1) 1), (158, e0 .iadd 1), (159, e0 .iaload 1)],
  [(160, e0 (.aload_n 0) 1), (161, e0 (.iload 7) 2), (163, (.invokevirtual 87, 3, 1, 134, 2, 40)), (166, (.invokestatic 125, 3, 1, 135, 2, 40)), (169, e0 .iastore 1), (170, e0 (.iinc 7 1) 3), (173, e0 (.goto (-58)) 3)],
  [(176, e0 .return_ 1)]]
theorem ok_127 : okT 127 pT_127 = true := by decide +kernel
def pT_128 : MT := [[(0, e0 (.iconst 1) 1), (1, e0 (.aload_n 0) 1), (2, (.getfield 9, 3, 8, 0, 1, 0)), (5, e0 (.iconst 0) 1), (6, e0 .iaload 1), (7, e0 .ishl 1), (8, e0 (.iconst 1) 1), (9, e0 .isub 1), (10, e0 (.aload_n 0) 1), (11, (.getfield 9, 3, 8, 0, 1, 0)), (14, e0 (.iconst 1) 1), (15, e0 .iaload 1)],
  [(16, e0 (.iconst (-1)) 1), (17, e0 .ixor 1), (18, e0 .iand 1), (19, (.ireturn, 1, 1, 0, 0, 0))]]
theorem ok_128 : okT 128 pT_128 = true := by decide +kernel
def pT_129 : MT := [[(0, e0 (.iload_n 0) 1), (1, e0 (.iload_n 1) 1), (2, e0 .ishr 1), (3, e0 (.iconst 1) 1), (4, e0 .iand 1), (5, e0 (.iconst 1) 1), (6, e0 (.if_icmp .ne 7) 3), (9, e0 (.iconst 1) 1), (10, e0 (.goto 4) 3), (13, e0 (.iconst 0) 1), (14, (.ireturn, 1, 2, 0, 0, 0))]]
theorem ok_129 : okT 129 pT_129 = true := by decide +kernel
def pT_130 : MT := [[(0, e0 (.aload_n 0) 1), (1, e0 (.iload_n 1) 1), (2, e0 (.iload_n 2) 1), (3, (.invokevirtual 91, 3, 1, 131, 3, 56)), (6, e0 (.aload_n 0) 1), (7, e0 (.iload_n 1) 1), (8, e0 (.iload_n 2) 1), (9, (.invokevirtual 95, 3, 1, 133, 3, 56)), (12, e0 .imul 1), (13, (.ireturn, 1, 1, 0, 0, 0))]]
theorem ok_130 : okT 130 pT_130 = true := by decide +kernel
def pT_131 : MT := [[(0, e0 (.aload_n 0) 1), (1, (.getfield 9, 3, 8, 0, 1, 0)), (4, e0 (.bipush 18) 2), (6, e0 (.iload_n 1) 1), (7, e0 .iadd 1), (8, e0 .iaload 1), (9, e0 (.aload_n 0) 1), (10, (.getfield 9, 3, 8, 0, 1, 0)), (13, e0 (.bipush 18) 2), (15, e0 (.iload_n 1) 1)],
  [(16, e0 .iadd 1), (17, e0 .iaload 1), (18, e0 (.aload_n 0) 1), (19, (.getfield 9, 3, 8, 0, 1, 0)), (22, e0 (.bipush 42) 2), (24, e0 (.iload_n 1) 1), (25, e0 .iadd 1), (26, e0 .iaload 1), (27, e0 .iadd 1), (28, e0 (.aload_n 0) 1), (29, (.getfield 9, 3, 8, 0, 1, 0))],
  [(32, e0 (.bipush 18) 2), (34, e0 (.iload_n 2) 1), (35, e0 .iadd 1), (36, e0 .iaload 1), (37, e0 (.aload_n 0) 1), (38, (.getfield 9, 3, 8, 0, 1, 0)), (41, e0 (.bipush 18) 2), (43, e0 (.iload_n 2) 1), (44, e0 .iadd 1), (45, e0 .iaload 1), (46, e0 (.aload_n 0) 1), (47, (.getfield 9, 3, 8, 0, 1, 0))],
  [(50, e0 (.bipush 42) 2), (52, e0 (.iload_n 2) 1), (53, e0 .iadd 1), (54, e0 .iaload 1), (55, e0 .iadd 1), (56, (.invokestatic 83, 3, 1, 132, 4, 104)), (59, (.ireturn, 1, 1, 0, 0, 0))]]
theorem ok_131 : okT 131 pT_131 = true := by decide +kernel
def pT_132 : MT := [[(0, e0 (.iload_n 0) 1), (1, e0 (.iload_n 2) 1), (2, e0 (.if_icmp .le 7) 3), (5, e0 (.iload_n 0) 1), (6, e0 (.goto 4) 3), (9, e0 (.iload_n 2) 1), (10, e0 (.istore 4) 2), (12, e0 (.iload_n 1) 1), (13, e0 (.iload_n 3) 1), (14, e0 (.if_icmp .ge 7) 3)],
  [(17, e0 (.iload_n 1) 1), (18, e0 (.goto 4) 3), (21, e0 (.iload_n 3) 1), (22, e0 (.istore 5) 2), (24, e0 (.iload 5) 2), (26, e0 (.iload 4) 2), (28, e0 (.if_icmp .le 11) 3), (31, e0 (.iload 5) 2)],
  [(33, e0 (.iload 4) 2), (35, e0 .isub 1), (36, e0 (.goto 4) 3), (39, e0 (.iconst 0) 1), (40, (.ireturn, 1, 1, 0, 0, 0))]]
theorem ok_132 : okT 132 pT_132 = true := by decide +kernel
def pT_133 : MT := [[(0, e0 (.aload_n 0) 1), (1, (.getfield 9, 3, 8, 0, 1, 0)), (4, e0 (.bipush 26) 2), (6, e0 (.iload_n 1) 1), (7, e0 .iadd 1), (8, e0 .iaload 1), (9, e0 (.aload_n 0) 1), (10, (.getfield 9, 3, 8, 0, 1, 0)), (13, e0 (.bipush 26) 2), (15, e0 (.iload_n 1) 1)],
  [(16, e0 .iadd 1), (17, e0 .iaload 1), (18, e0 (.aload_n 0) 1), (19, (.getfield 9, 3, 8, 0, 1, 0)), (22, e0 (.bipush 50) 2), (24, e0 (.iload_n 1) 1), (25, e0 .iadd 1), (26, e0 .iaload 1), (27, e0 .iadd 1), (28, e0 (.aload_n 0) 1), (29, (.getfield 9, 3, 8, 0, 1, 0))],
  [(32, e0 (.bipush 26) 2), (34, e0 (.iload_n 2) 1), (35, e0 .iadd 1), (36, e0 .iaload 1), (37, e0 (.aload_n 0) 1), (38, (.getfield 9, 3, 8, 0, 1, 0)), (41, e0 (.bipush 26) 2), (43, e0 (.iload_n 2) 1), (44, e0 .iadd 1), (45, e0 .iaload 1), (46, e0 (.aload_n 0) 1), (47, (.getfield 9, 3, 8, 0, 1, 0))],
  [(50, e0 (.bipush 50) 2), (52, e0 (.iload_n 2) 1), (53, e0 .iadd 1), (54, e0 .iaload 1), (55, e0 .iadd 1), (56, (.invokestatic 83, 3, 1, 132, 4, 104)), (59, (.ireturn, 1, 1, 0, 0, 0))]]
theorem ok_133 : okT 133 pT_133 = true := by decide +kernel
def pT_134 : MT := [[(0, e0 (.aload_n 0) 1), (1, (.getfield 9, 3, 8, 0, 1, 0)), (4, e0 (.bipush 34) 2), (6, e0 (.iload_n 1) 1), (7, e0 .iadd 1), (8, e0 .iaload 1), (9, e0 (.aload_n 0) 1), (10, (.getfield 9, 3, 8, 0, 1, 0)), (13, e0 (.bipush 58) 2), (15, e0 (.iload_n 1) 1)],
  [(16, e0 .iadd 1), (17, e0 .iaload 1), (18, e0 .iadd 1), (19, (.ireturn, 1, 1, 0, 0, 0))]]
theorem ok_134 : okT 134 pT_134 = true := by decide +kernel
def pT_135 : MT := [[(0, e0 (.iload_n 0) 1), (1, e0 (.iload_n 1) 1), (2, e0 (.if_icmp .le 7) 3), (5, e0 (.iload_n 0) 1), (6, e0 (.goto 4) 3), (9, e0 (.iload_n 1) 1), (10, (.ireturn, 1, 1, 0, 0, 0))]]
theorem ok_135 : okT 135 pT_135 = true := by decide +kernel
def pT_136 : MT := [[(0, e0 (.aload_n 0) 1), (1, e0 (.iload_n 1) 1), (2, (.invokevirtual 71, 3, 1, 137, 2, 40)), (5, e0 (.ifCond .ne 6) 3), (8, e0 (.bipush (-2)) 2), (10, (.ireturn, 1, 1, 0, 0, 0)), (11, e0 (.iload_n 2) 1), (12, e0 (.tableswitch 204 0 9 #[56, 65, 75, 85, 95, 105, 141, 151, 162, 183]) 56)],
  [],
  [],
  [],
  [(68, e0 (.aload_n 0) 1), (69, (.getfield 9, 3, 8, 0, 1, 0)), (72, e0 (.iconst 2) 1), (73, e0 (.iload_n 1) 1), (74, e0 .iadd 1), (75, e0 .iaload 1), (76, (.ireturn, 1, 1, 0, 0, 0)), (77, e0 (.aload_n 0) 1), (78, (.getfield 9, 3, 8, 0, 1, 0))],
  [(81, e0 (.bipush 10) 2), (83, e0 (.iload_n 1) 1), (84, e0 .iadd 1), (85, e0 .iaload 1), (86, (.ireturn, 1, 1, 0, 0, 0)), (87, e0 (.aload_n 0) 1), (88, (.getfield 9, 3, 8, 0, 1, 0)), (91, e0 (.bipush 18) 2), (93, e0 (.iload_n 1) 1), (94, e0 .iadd 1), (95, e0 .iaload 1)],
  [(96, (.ireturn, 1, 1, 0, 0, 0)), (97, e0 (.aload_n 0) 1), (98, (.getfield 9, 3, 8, 0, 1, 0)), (101, e0 (.bipush 26) 2), (103, e0 (.iload_n 1) 1), (104, e0 .iadd 1), (105, e0 .iaload 1), (106, (.ireturn, 1, 1, 0, 0, 0)), (107, e0 (.aload_n 0) 1), (108, (.getfield 9, 3, 8, 0, 1, 0)), (111, e0 (.bipush 34) 2)],
  [(113, e0 (.iload_n 1) 1), (114, e0 .iadd 1), (115, e0 .iaload 1), (116, (.ireturn, 1, 1, 0, 0, 0)), (117, e0 (.bipush 100) 2), (119, e0 (.aload_n 0) 1), (120, (.getfield 9, 3, 8, 0, 1, 0)), (123, e0 (.bipush 42) 2), (125, e0 (.iload_n 1) 1), (126, e0 .iadd 1), (127, e0 .iaload 1)],
  [(128, e0 .imul 1), (129, e0 (.bipush 10) 2), (131, e0 (.aload_n 0) 1), (132, (.getfield 9, 3, 8, 0, 1, 0)), (135, e0 (.bipush 50) 2), (137, e0 (.iload_n 1) 1), (138, e0 .iadd 1), (139, e0 .iaload 1), (140, e0 .imul 1), (141, e0 .iadd 1), (142, e0 (.aload_n 0) 1), (143, (.getfield 9, 3, 8, 0, 1, 0))],
  [(146, e0 (.bipush 58) 2), (148, e0 (.iload_n 1) 1), (149, e0 .iadd 1), (150, e0 .iaload 1), (151, e0 .iadd 1), (152, (.ireturn, 1, 1, 0, 0, 0)), (153, e0 (.aload_n 0) 1), (154, (.getfield 9, 3, 8, 0, 1, 0)), (157, e0 (.bipush 66) 2), (159, e0 (.iload_n 1) 1)],
  [(160, e0 .iadd 1), (161, e0 .iaload 1), (162, (.ireturn, 1, 1, 0, 0, 0)), (163, e0 (.aload_n 0) 1), (164, (.getfield 9, 3, 8, 0, 1, 0)), (167, e0 (.iconst 1) 1), (168, e0 .iaload 1), (169, e0 (.iload_n 1) 1), (170, e0 .ishr 1), (171, e0 (.iconst 1) 1), (172, e0 .iand 1), (173, (.ireturn, 1, 1, 0, 0, 0)), (174, e0 (.aload_n 0) 1), (175, (.getfield 9, 3, 8, 0, 1, 0))],
  [(178, e0 (.iconst 2) 1), (179, e0 (.iload_n 1) 1), (180, e0 .iadd 1), (181, e0 .iaload 1), (182, e0 (.aload_n 0) 1), (183, (.getfield 9, 3, 8, 0, 1, 0)), (186, e0 (.bipush 10) 2), (188, e0 (.iload_n 1) 1), (189, e0 .iadd 1), (190, e0 .iaload 1), (191, (.invokestatic 175, 3, 1, 138, 2, 56))],
  [(194, (.ireturn, 1, 1, 0, 0, 0)), (195, e0 (.aload_n 0) 1), (196, (.getfield 9, 3, 8, 0, 1, 0)), (199, e0 (.iconst 2) 1), (200, e0 (.iload_n 1) 1), (201, e0 .iadd 1), (202, e0 .iaload 1), (203, e0 (.aload_n 0) 1), (204, (.getfield 9, 3, 8, 0, 1, 0)), (207, e0 (.bipush 10) 2)],
  [(209, e0 (.iload_n 1) 1), (210, e0 .iadd 1), (211, e0 .iaload 1), (212, (.invokestatic 181, 3, 1, 139, 2, 40)), (215, (.ireturn, 1, 1, 0, 0, 0)), (216, e0 (.bipush (-2)) 2), (218, (.ireturn, 1, 1, 0, 0, 0))]]
theorem ok_136 : okT 136 pT_136 = true := by decide +kernel
def pT_137 : MT := [[(0, e0 (.iload_n 1) 1), (1, e0 (.iconst 0) 1), (2, e0 (.aload_n 0) 1), (3, (.getfield 9, 3, 8, 0, 1, 0)), (6, e0 (.iconst 0) 1), (7, e0 .iaload 1), (8, e0 (.iconst 1) 1), (9, e0 .isub 1), (10, (.invokestatic 67, 3, 1, 125, 3, 56)), (13, (.ireturn, 1, 2, 0, 0, 0))]]
theorem ok_137 : okT 137 pT_137 = true := by decide +kernel
def pT_138 : MT := [[(0, e0 (.sipush 600) 3), (3, e0 (.bipush 100) 2), (5, e0 (.iload_n 1) 1), (6, e0 .imul 1), (7, e0 .iadd 1), (8, e0 (.istore_n 2) 1), (9, e0 (.iload_n 0) 1), (10, e0 (.tableswitch 52 1 5 #[34, 39, 43, 48, 39]) 34)],
  [],
  [(44, e0 (.bipush 20) 2), (46, e0 (.iload_n 1) 1), (47, e0 .imul 1)],
  [(48, (.ireturn, 1, 1, 0, 0, 0)), (49, e0 (.iconst 2) 1), (50, e0 (.iload_n 2) 1), (51, e0 .imul 1), (52, (.ireturn, 1, 1, 0, 0, 0)), (53, e0 (.bipush 10) 2), (55, e0 (.iload_n 1) 1), (56, e0 .imul 1), (57, (.ireturn, 1, 1, 0, 0, 0)), (58, e0 (.sipush 300) 3), (61, (.ireturn, 1, 1, 0, 0, 0)), (62, e0 (.iload_n 2) 1), (63, (.ireturn, 1, 1, 0, 0, 0))]]
theorem ok_138 : okT 138 pT_138 = true := by decide +kernel
def pT_139 : MT := [[(0, e0 (.iload_n 0) 1), (1, e0 (.tableswitch 48 2 5 #[31, 36, 39, 43]) 31)],
  [],
  [(32, e0 (.bipush 60) 2), (34, e0 (.iload_n 1) 1), (35, e0 .iadd 1), (36, (.ireturn, 1, 1, 0, 0, 0)), (37, e0 (.bipush 50) 2), (39, (.ireturn, 1, 1, 0, 0, 0)), (40, e0 (.iconst 5) 1), (41, e0 (.iload_n 1) 1), (42, e0 .iadd 1), (43, (.ireturn, 1, 1, 0, 0, 0)), (44, e0 (.bipush 80) 2), (46, e0 (.iload_n 1) 1), (47, e0 .iadd 1)],
  [(48, (.ireturn, 1, 1, 0, 0, 0)), (49, e0 (.bipush 60) 2), (51, (.ireturn, 1, 1, 0, 0, 0))]]
theorem ok_139 : okT 139 pT_139 = true := by decide +kernel
def pT_140 : MT := [[(0, e0 (.aload_n 0) 1), (1, e0 (.iload_n 1) 1), (2, (.invokevirtual 203, 3, 1, 141, 2, 40)), (5, e0 (.ifCond .eq 22) 3), (8, e0 (.iload_n 2) 1), (9, e0 (.iconst 0) 1), (10, e0 (.iconst 5) 1), (11, (.invokestatic 67, 3, 1, 125, 3, 56)), (14, e0 (.ifCond .eq 13) 3)],
  [(17, e0 (.iload_n 3) 1), (18, e0 (.iconst 0) 1), (19, e0 (.bipush 9) 2), (21, (.invokestatic 67, 3, 1, 125, 3, 56)), (24, e0 (.ifCond .ne 6) 3), (27, e0 (.bipush (-2)) 2), (29, (.ireturn, 1, 1, 0, 0, 0)), (30, e0 (.bipush 10) 2)],
  [(32, e0 (.aload_n 0) 1), (33, (.getfield 9, 3, 8, 0, 1, 0)), (36, e0 (.iconst 2) 1), (37, e0 (.iload_n 1) 1), (38, e0 .iadd 1), (39, e0 .iaload 1), (40, e0 .imul 1), (41, e0 (.aload_n 0) 1), (42, (.getfield 9, 3, 8, 0, 1, 0)), (45, e0 (.bipush 10) 2), (47, e0 (.iload_n 1) 1)],
  [(48, e0 .iadd 1), (49, e0 .iaload 1), (50, e0 .iadd 1), (51, e0 (.istore 4) 2), (53, e0 (.aload_n 0) 1), (54, (.getfield 9, 3, 8, 0, 1, 0)), (57, e0 (.iconst 2) 1), (58, e0 (.iload_n 1) 1), (59, e0 .iadd 1), (60, e0 (.iload_n 2) 1), (61, e0 .iastore 1), (62, e0 (.aload_n 0) 1), (63, (.getfield 9, 3, 8, 0, 1, 0))],
  [(66, e0 (.bipush 10) 2), (68, e0 (.iload_n 1) 1), (69, e0 .iadd 1), (70, e0 (.iload_n 3) 1), (71, e0 .iastore 1), (72, e0 (.iload 4) 2), (74, (.ireturn, 1, 1, 0, 0, 0))]]
theorem ok_140 : okT 140 pT_140 = true := by decide +kernel
def pT_141 : MT := [[(0, e0 (.aload_n 0) 1), (1, e0 (.iload_n 1) 1), (2, (.invokevirtual 71, 3, 1, 137, 2, 40)), (5, e0 (.ifCond .eq 18) 3), (8, e0 (.aload_n 0) 1), (9, (.invokevirtual 75, 3, 1, 128, 1, 24)), (12, e0 (.iload_n 1) 1), (13, (.invokestatic 79, 3, 1, 129, 2, 40))],
  [(16, e0 (.ifCond .eq 7) 3), (19, e0 (.iconst 1) 1), (20, e0 (.goto 4) 3), (23, e0 (.iconst 0) 1), (24, (.ireturn, 1, 2, 0, 0, 0))]]
theorem ok_141 : okT 141 pT_141 = true := by decide +kernel
def pT_142 : MT := [[(0, e0 (.aload_n 0) 1), (1, e0 (.iload_n 1) 1), (2, (.invokevirtual 203, 3, 1, 141, 2, 40)), (5, e0 (.ifCond .ne 6) 3), (8, e0 (.bipush (-2)) 2), (10, (.ireturn, 1, 1, 0, 0, 0)), (11, e0 (.iload_n 2) 1), (12, e0 .i2l 1), (13, e0 (.iload_n 3) 1), (14, e0 .i2l 1), (15, e0 .lmul 1)],
  [(16, e0 (.lstore 4) 2), (18, e0 (.lload 4) 2), (20, e0 (.lload 4) 2), (22, e0 .l2i 1), (23, e0 .i2l 1), (24, e0 .lcmp 1), (25, e0 (.ifCond .eq 6) 3), (28, e0 (.bipush (-4)) 2), (30, (.ireturn, 1, 1, 0, 0, 0)), (31, e0 (.lload 4) 2)],
  [(33, e0 (.lconst 1) 1), (34, e0 .lcmp 1), (35, e0 (.ifCond .lt 12) 3), (38, e0 (.lload 4) 2), (40, (.ldc2_w 206, 3, 1, 999, 0, 0)), (43, e0 .lcmp 1), (44, e0 (.ifCond .le 6) 3), (47, e0 (.bipush (-2)) 2)],
  [(49, (.ireturn, 1, 1, 0, 0, 0)), (50, e0 (.aload_n 0) 1), (51, (.getfield 9, 3, 8, 0, 1, 0)), (54, e0 (.bipush 66) 2), (56, e0 (.iload_n 1) 1), (57, e0 .iadd 1), (58, e0 .iaload 1), (59, e0 (.istore 6) 2), (61, e0 (.aload_n 0) 1), (62, (.getfield 9, 3, 8, 0, 1, 0))],
  [(65, e0 (.bipush 66) 2), (67, e0 (.iload_n 1) 1), (68, e0 .iadd 1), (69, e0 (.lload 4) 2), (71, e0 .l2i 1), (72, e0 .iastore 1), (73, e0 (.iload 6) 2), (75, (.ireturn, 1, 1, 0, 0, 0))]]
theorem ok_142 : okT 142 pT_142 = true := by decide +kernel
def pT_143 : MT := [[(0, e0 (.aload_n 0) 1), (1, e0 (.iload_n 1) 1), (2, (.invokevirtual 203, 3, 1, 141, 2, 40)), (5, e0 (.ifCond .eq 12) 3), (8, e0 (.iload_n 2) 1), (9, e0 (.iconst 0) 1), (10, e0 (.iconst 5) 1), (11, (.invokestatic 67, 3, 1, 125, 3, 56)), (14, e0 (.ifCond .ne 6) 3)],
  [(17, e0 (.bipush (-2)) 2), (19, (.ireturn, 1, 1, 0, 0, 0)), (20, e0 (.aload_n 0) 1), (21, (.getfield 9, 3, 8, 0, 1, 0)), (24, e0 (.iconst 2) 1), (25, e0 (.iload_n 1) 1), (26, e0 .iadd 1), (27, e0 .iaload 1), (28, e0 (.iload_n 2) 1), (29, (.invokestatic 208, 3, 1, 144, 2, 40))],
  [(32, e0 (.ifCond .eq 26) 3), (35, e0 (.aload_n 0) 1), (36, (.getfield 9, 3, 8, 0, 1, 0)), (39, e0 (.iconst 2) 1), (40, e0 (.iload_n 1) 1), (41, e0 .iadd 1), (42, e0 .iaload 1), (43, e0 (.aload_n 0) 1), (44, (.getfield 9, 3, 8, 0, 1, 0)), (47, e0 (.bipush 10) 2)],
  [(49, e0 (.iload_n 1) 1), (50, e0 .iadd 1), (51, e0 .iaload 1), (52, (.invokestatic 175, 3, 1, 138, 2, 56)), (55, e0 (.goto 5) 3), (58, e0 (.bipush (-13)) 2), (60, (.ireturn, 1, 1, 0, 0, 0))]]
theorem ok_143 : okT 143 pT_143 = true := by decide +kernel
def pT_144 : MT := [[(0, e0 (.iload_n 1) 1), (1, e0 (.ifCond .eq 28) 3), (4, e0 (.iload_n 0) 1), (5, e0 (.iload_n 1) 1), (6, e0 (.if_icmp .eq 23) 3), (9, e0 (.iload_n 1) 1), (10, e0 (.iconst 1) 1), (11, e0 (.if_icmp .ne 8) 3), (14, e0 (.iload_n 0) 1), (15, e0 (.iconst 3) 1)],
  [(16, e0 (.if_icmp .eq 13) 3), (19, e0 (.iload_n 1) 1), (20, e0 (.iconst 2) 1), (21, e0 (.if_icmp .ne 12) 3), (24, e0 (.iload_n 0) 1), (25, e0 (.iconst 5) 1), (26, e0 (.if_icmp .ne 7) 3), (29, e0 (.iconst 1) 1), (30, e0 (.goto 4) 3)],
  [(33, e0 (.iconst 0) 1), (34, (.ireturn, 1, 2, 0, 0, 0))]]
theorem ok_144 : okT 144 pT_144 = true := by decide +kernel
def pT_145 : MT := [[(0, e0 (.aload_n 0) 1), (1, e0 (.iload_n 1) 1), (2, (.invokevirtual 203, 3, 1, 141, 2, 40)), (5, e0 (.ifCond .ne 6) 3), (8, e0 (.bipush (-2)) 2), (10, (.ireturn, 1, 1, 0, 0, 0)), (11, e0 (.aload_n 0) 1), (12, e0 (.iload_n 1) 1), (13, e0 (.aload_n 0) 1), (14, (.invokevirtual 75, 3, 1, 128, 1, 24))],
  [(17, (.invokevirtual 211, 3, 1, 146, 3, 56)), (20, e0 (.ifCond .ne 6) 3), (23, e0 (.bipush (-3)) 2), (25, (.ireturn, 1, 1, 0, 0, 0)), (26, e0 (.aload_n 0) 1), (27, (.getfield 9, 3, 8, 0, 1, 0)), (30, e0 (.iconst 1) 1), (31, e0 .dup2 1)],
  [(32, e0 .iaload 1), (33, e0 (.iconst 1) 1), (34, e0 (.iload_n 1) 1), (35, e0 .ishl 1), (36, e0 .ior 1), (37, e0 .iastore 1), (38, e0 (.aload_n 0) 1), (39, (.invokevirtual 75, 3, 1, 128, 1, 24)), (42, (.invokestatic 214, 3, 1, 165, 1, 56)), (45, (.ireturn, 1, 1, 0, 0, 0))]]
theorem ok_145 : okT 145 pT_145 = true := by decide +kernel
def pT_146 : MT := [[(0, e0 (.aload_n 0) 1), (1, e0 (.iload_n 1) 1), (2, e0 (.iload_n 2) 1), (3, (.invokevirtual 187, 3, 1, 147, 3, 88)), (6, e0 (.ifCond .ne 32) 3), (9, e0 (.aload_n 0) 1), (10, e0 (.iload_n 1) 1), (11, e0 (.iload_n 2) 1), (12, (.invokevirtual 190, 3, 1, 149, 3, 88)), (15, e0 (.ifCond .ne 23) 3)],
  [(18, e0 (.aload_n 0) 1), (19, e0 (.iload_n 2) 1), (20, e0 (.iconst 1) 1), (21, e0 (.iload_n 1) 1), (22, e0 .ishl 1), (23, e0 (.iconst (-1)) 1), (24, e0 .ixor 1), (25, e0 .iand 1), (26, e0 (.iconst (-1)) 1), (27, e0 (.iconst 0) 1), (28, (.invokevirtual 193, 3, 1, 151, 4, 88)), (31, e0 (.ifCond .ne 7) 3)],
  [(34, e0 (.iconst 1) 1), (35, e0 (.goto 4) 3), (38, e0 (.iconst 0) 1), (39, (.ireturn, 1, 2, 0, 0, 0))]]
theorem ok_146 : okT 146 pT_146 = true := by decide +kernel
def pT_147 : MT := [[(0, e0 (.iconst 0) 1), (1, e0 (.istore_n 3) 1), (2, e0 (.iconst 0) 1), (3, e0 (.istore 4) 2), (5, e0 (.iload 4) 2), (7, e0 (.aload_n 0) 1), (8, (.getfield 9, 3, 8, 0, 1, 0)), (11, e0 (.iconst 0) 1), (12, e0 .iaload 1), (13, e0 (.if_icmp .ge 39) 3)],
  [(16, e0 (.iload_n 3) 1), (17, e0 (.iload_n 2) 1), (18, e0 (.iload 4) 2), (20, (.invokestatic 79, 3, 1, 129, 2, 40)), (23, e0 (.ifCond .eq 20) 3), (26, e0 (.aload_n 0) 1), (27, e0 (.iload 4) 2), (29, e0 (.iload_n 1) 1), (30, (.invokevirtual 101, 3, 1, 148, 3, 56))],
  [(33, e0 (.ifCond .le 10) 3), (36, e0 (.iconst 1) 1), (37, e0 (.iload 4) 2), (39, e0 .ishl 1), (40, e0 (.goto 4) 3), (43, e0 (.iconst 0) 1), (44, e0 .ior 1), (45, e0 (.istore_n 3) 1), (46, e0 (.iinc 4 1) 3)],
  [(49, e0 (.goto (-44)) 3), (52, e0 (.iload_n 3) 1), (53, (.ireturn, 1, 1, 0, 0, 0))]]
theorem ok_147 : okT 147 pT_147 = true := by decide +kernel
def pT_148 : MT := [[(0, e0 (.iload_n 2) 1), (1, e0 (.iload_n 1) 1), (2, e0 (.if_icmp .eq 29) 3), (5, e0 (.aload_n 0) 1), (6, e0 (.iload_n 2) 1), (7, (.invokevirtual 87, 3, 1, 134, 2, 40)), (10, e0 (.aload_n 0) 1), (11, (.getfield 9, 3, 8, 0, 1, 0)), (14, e0 (.bipush 34) 2)],
  [(16, e0 (.iload_n 1) 1), (17, e0 .iadd 1), (18, e0 .iaload 1), (19, e0 (.if_icmp .ne 12) 3), (22, e0 (.aload_n 0) 1), (23, e0 (.iload_n 2) 1), (24, e0 (.iload_n 1) 1), (25, (.invokevirtual 98, 3, 1, 130, 3, 56)), (28, e0 (.goto 4) 3), (31, e0 (.iconst 0) 1)],
  [(32, (.ireturn, 1, 1, 0, 0, 0))]]
theorem ok_148 : okT 148 pT_148 = true := by decide +kernel
def pT_149 : MT := [[(0, e0 (.iconst 0) 1), (1, e0 (.istore_n 3) 1), (2, e0 (.iconst 0) 1), (3, e0 (.istore 4) 2), (5, e0 (.iload 4) 2), (7, e0 (.aload_n 0) 1), (8, (.getfield 9, 3, 8, 0, 1, 0)), (11, e0 (.iconst 0) 1), (12, e0 .iaload 1), (13, e0 (.if_icmp .ge 87) 3)],
  [(16, e0 (.iload_n 3) 1), (17, e0 (.iload 4) 2), (19, e0 (.iload_n 1) 1), (20, e0 (.if_icmp .eq 71) 3), (23, e0 (.iload_n 2) 1), (24, e0 (.iload 4) 2), (26, (.invokestatic 79, 3, 1, 129, 2, 40)), (29, e0 (.ifCond .eq 62) 3)],
  [(32, e0 (.aload_n 0) 1), (33, (.getfield 9, 3, 8, 0, 1, 0)), (36, e0 (.bipush 18) 2), (38, e0 (.iload 4) 2), (40, e0 .iadd 1), (41, e0 .iaload 1), (42, e0 (.aload_n 0) 1), (43, (.getfield 9, 3, 8, 0, 1, 0)), (46, e0 (.bipush 18) 2)],
  [(48, e0 (.iload_n 1) 1), (49, e0 .iadd 1), (50, e0 .iaload 1), (51, e0 (.aload_n 0) 1), (52, (.getfield 9, 3, 8, 0, 1, 0)), (55, e0 (.bipush 42) 2), (57, e0 (.iload_n 1) 1), (58, e0 .iadd 1), (59, e0 .iaload 1), (60, e0 .iadd 1), (61, e0 (.if_icmp .lt 30) 3)],
  [(64, e0 (.aload_n 0) 1), (65, e0 (.iload_n 1) 1), (66, e0 (.iload 4) 2), (68, (.invokevirtual 95, 3, 1, 133, 3, 56)), (71, e0 (.ifCond .le 20) 3), (74, e0 (.aload_n 0) 1), (75, e0 (.iload_n 1) 1), (76, e0 (.iload 4) 2), (78, (.invokevirtual 184, 3, 1, 150, 3, 56))],
  [(81, e0 (.ifCond .le 10) 3), (84, e0 (.iconst 1) 1), (85, e0 (.iload 4) 2), (87, e0 .ishl 1), (88, e0 (.goto 4) 3), (91, e0 (.iconst 0) 1), (92, e0 .ior 1), (93, e0 (.istore_n 3) 1), (94, e0 (.iinc 4 1) 3)],
  [(97, e0 (.goto (-92)) 3), (100, e0 (.iload_n 3) 1), (101, (.ireturn, 1, 1, 0, 0, 0))]]
theorem ok_149 : okT 149 pT_149 = true := by decide +kernel
def pT_150 : MT := [[(0, e0 (.aload_n 0) 1), (1, (.getfield 9, 3, 8, 0, 1, 0)), (4, e0 (.bipush 34) 2), (6, e0 (.iload_n 1) 1), (7, e0 .iadd 1), (8, e0 .iaload 1), (9, e0 (.aload_n 0) 1), (10, e0 (.iload_n 1) 1), (11, (.invokevirtual 87, 3, 1, 134, 2, 40)), (14, e0 (.aload_n 0) 1), (15, (.getfield 9, 3, 8, 0, 1, 0))],
  [(18, e0 (.bipush 34) 2), (20, e0 (.iload_n 2) 1), (21, e0 .iadd 1), (22, e0 .iaload 1), (23, e0 (.aload_n 0) 1), (24, e0 (.iload_n 2) 1), (25, (.invokevirtual 87, 3, 1, 134, 2, 40)), (28, (.invokestatic 83, 3, 1, 132, 4, 104)), (31, (.ireturn, 1, 1, 0, 0, 0))]]
theorem ok_150 : okT 150 pT_150 = true := by decide +kernel
def pT_151 : MT := [[(0, e0 (.aload_n 0) 1), (1, e0 (.iload_n 1) 1), (2, (.invokevirtual 156, 3, 1, 152, 2, 72)), (5, e0 (.aload_n 0) 1), (6, e0 (.iconst 0) 1), (7, (.putfield 160, 3, 8, 11, 0, 0)), (10, e0 (.aload_n 0) 1), (11, e0 (.iconst 0) 1), (12, (.putfield 163, 3, 8, 12, 0, 0)), (15, e0 (.aload_n 0) 1)],
  [(16, e0 (.iconst 0) 1), (17, (.putfield 166, 3, 8, 13, 0, 0)), (20, e0 (.aload_n 0) 1), (21, e0 (.iconst 0) 1), (22, (.putfield 169, 3, 8, 14, 0, 0)), (25, e0 (.iconst 0) 1), (26, e0 (.istore 4) 2), (28, e0 (.iload 4) 2), (30, e0 (.aload_n 0) 1), (31, (.getfield 9, 3, 8, 0, 1, 0))],
  [(34, e0 (.iconst 0) 1), (35, e0 .iaload 1), (36, e0 (.if_icmp .ge 163) 3), (39, e0 (.iload_n 1) 1), (40, e0 (.iload 4) 2), (42, (.invokestatic 79, 3, 1, 129, 2, 40)), (45, e0 (.ifCond .ne 6) 3)],
  [(48, e0 (.goto 145) 3), (51, e0 (.aload_n 0) 1), (52, e0 (.iload 4) 2), (54, e0 (.iload_n 1) 1), (55, (.invokevirtual 172, 3, 1, 154, 3, 88)), (58, e0 (.ifCond .ne 19) 3), (61, e0 (.aload_n 0) 1), (62, e0 .dup 1), (63, (.getfield 160, 3, 8, 11, 0, 0))],
  [(66, e0 (.iconst 1) 1), (67, e0 (.iload 4) 2), (69, e0 .ishl 1), (70, e0 .ior 1), (71, (.putfield 160, 3, 8, 11, 0, 0)), (74, e0 (.goto 76) 3), (77, e0 (.aload_n 0) 1), (78, (.getfield 18, 3, 8, 3, 1, 0))],
  [(81, e0 (.iload 4) 2), (83, e0 .iaload 1), (84, e0 (.aload_n 0) 1), (85, (.getfield 9, 3, 8, 0, 1, 0)), (88, e0 (.iconst 2) 1), (89, e0 (.iload 4) 2), (91, e0 .iadd 1), (92, e0 .iaload 1), (93, e0 (.aload_n 0) 1), (94, (.getfield 9, 3, 8, 0, 1, 0))],
  [(97, e0 (.bipush 10) 2), (99, e0 (.iload 4) 2), (101, e0 .iadd 1), (102, e0 .iaload 1), (103, (.invokestatic 175, 3, 1, 138, 2, 56)), (106, e0 (.if_icmp .le 19) 3), (109, e0 (.aload_n 0) 1), (110, e0 .dup 1), (111, (.getfield 163, 3, 8, 12, 0, 0))],
  [(114, e0 (.iconst 1) 1), (115, e0 (.iload 4) 2), (117, e0 .ishl 1), (118, e0 .ior 1), (119, (.putfield 163, 3, 8, 12, 0, 0)), (122, e0 (.goto 28) 3), (125, e0 (.aload_n 0) 1), (126, e0 (.iload 4) 2)],
  [(128, e0 (.iload_n 1) 1), (129, e0 (.iload_n 2) 1), (130, e0 (.iload_n 3) 1), (131, (.invokevirtual 178, 3, 1, 155, 5, 216)), (134, e0 (.ifCond .ne 16) 3), (137, e0 (.aload_n 0) 1), (138, e0 .dup 1), (139, (.getfield 166, 3, 8, 13, 0, 0)), (142, e0 (.iconst 1) 1), (143, e0 (.iload 4) 2)],
  [(145, e0 .ishl 1), (146, e0 .ior 1), (147, (.putfield 166, 3, 8, 13, 0, 0)), (150, e0 (.iload_n 2) 1), (151, e0 (.ifCond .lt 42) 3), (154, e0 (.iload_n 3) 1), (155, e0 (.aload_n 0) 1), (156, (.getfield 9, 3, 8, 0, 1, 0)), (159, e0 (.iconst 2) 1)],
  [(160, e0 (.iload 4) 2), (162, e0 .iadd 1), (163, e0 .iaload 1), (164, e0 (.aload_n 0) 1), (165, (.getfield 9, 3, 8, 0, 1, 0)), (168, e0 (.bipush 10) 2), (170, e0 (.iload 4) 2), (172, e0 .iadd 1), (173, e0 .iaload 1), (174, (.invokestatic 181, 3, 1, 139, 2, 40))],
  [(177, e0 (.if_icmp .le 16) 3), (180, e0 (.aload_n 0) 1), (181, e0 .dup 1), (182, (.getfield 169, 3, 8, 14, 0, 0)), (185, e0 (.iconst 1) 1), (186, e0 (.iload 4) 2), (188, e0 .ishl 1), (189, e0 .ior 1), (190, (.putfield 169, 3, 8, 14, 0, 0))],
  [(193, e0 (.iinc 4 1) 3), (196, e0 (.goto (-168)) 3), (199, e0 (.aload_n 0) 1), (200, (.getfield 160, 3, 8, 11, 0, 0)), (203, e0 (.aload_n 0) 1), (204, (.getfield 163, 3, 8, 12, 0, 0)), (207, e0 .ior 1)],
  [(208, e0 (.aload_n 0) 1), (209, (.getfield 166, 3, 8, 13, 0, 0)), (212, e0 .ior 1), (213, e0 (.aload_n 0) 1), (214, (.getfield 169, 3, 8, 14, 0, 0)), (217, e0 .ior 1), (218, (.ireturn, 1, 1, 0, 0, 0))]]
theorem ok_151 : okT 151 pT_151 = true := by decide +kernel
