/-! ===== more instructions ===== -/
def pT_77 : MT := [[(0, e0 (.aload_n 0) 1), (1, (.getfield 14, 3, 7, 0, 1, 0)), (4, e0 (.iload_n 1) 1), (5, (.invokevirtual 93, 3, 1, 42, 2, 35)), (8, e0 (.ifCond .eq 20) 3), (11, e0 (.iload_n 2) 1), (12, (.invokestatic 102, 3, 1, 71, 1, 23)), (15, e0 (.ifCond .eq 13) 3)],
  [(18, e0 (.iload_n 3) 1), (19, e0 (.ifCond .lt 9) 3), (22, e0 (.iload_n 3) 1), (23, e0 (.bipush 10) 2), (25, e0 (.if_icmp .lt 6) 3), (28, e0 (.bipush (-2)) 2), (30, (.ireturn, 1, 1, 0, 0, 0)), (31, e0 (.aload_n 0) 1)],
  [(32, (.getfield 14, 3, 7, 0, 1, 0)), (35, (.getfield 64, 3, 3, 0, 1, 0)), (38, e0 (.iload_n 1) 1), (39, e0 .aaload 1), (40, e0 (.astore 4) 2), (42, e0 (.bipush 10) 2), (44, e0 (.aload 4) 2), (46, (.getfield 68, 3, 1, 0, 0, 0))],
  [(49, e0 .imul 1), (50, e0 (.aload 4) 2), (52, (.getfield 74, 3, 1, 1, 0, 0)), (55, e0 .iadd 1), (56, e0 (.istore 5) 2), (58, e0 (.aload 4) 2), (60, e0 (.iload_n 2) 1), (61, (.putfield 68, 3, 1, 0, 0, 0))],
  [(64, e0 (.aload 4) 2), (66, e0 (.iload_n 3) 1), (67, (.putfield 74, 3, 1, 1, 0, 0)), (70, e0 (.iload 5) 2), (72, (.ireturn, 1, 1, 0, 0, 0))]]
theorem ok_77 : okT 77 pT_77 = true := by decide +kernel
def pT_78 : MT := [[(0, e0 (.aload_n 0) 1), (1, (.getfield 14, 3, 7, 0, 1, 0)), (4, e0 (.iload_n 1) 1), (5, (.invokevirtual 93, 3, 1, 42, 2, 35)), (8, e0 (.ifCond .ne 6) 3), (11, e0 (.bipush (-2)) 2), (13, (.ireturn, 1, 1, 0, 0, 0)), (14, e0 (.iload_n 2) 1), (15, e0 .i2l 1)],
  [(16, e0 (.iload_n 3) 1), (17, e0 .i2l 1), (18, e0 .lmul 1), (19, e0 (.lstore 4) 2), (21, e0 (.lload 4) 2), (23, e0 (.lload 4) 2), (25, e0 .l2i 1), (26, e0 .i2l 1), (27, e0 .lcmp 1), (28, e0 (.ifCond .eq 6) 3), (31, e0 (.bipush (-4)) 2)],
  [(33, (.ireturn, 1, 1, 0, 0, 0)), (34, e0 (.lload 4) 2), (36, (.invokestatic 105, 3, 1, 74, 1, 39)), (39, e0 (.ifCond .ne 6) 3), (42, e0 (.bipush (-2)) 2), (44, (.ireturn, 1, 1, 0, 0, 0)), (45, e0 (.aload_n 0) 1), (46, (.getfield 14, 3, 7, 0, 1, 0))],
  [(49, (.getfield 64, 3, 3, 0, 1, 0)), (52, e0 (.iload_n 1) 1), (53, e0 .aaload 1), (54, e0 (.astore 6) 2), (56, e0 (.aload 6) 2), (58, (.getfield 90, 3, 1, 8, 0, 0)), (61, e0 (.istore 7) 2), (63, e0 (.aload 6) 2)],
  [(65, e0 (.lload 4) 2), (67, e0 .l2i 1), (68, (.putfield 90, 3, 1, 8, 0, 0)), (71, e0 (.iload 7) 2), (73, (.ireturn, 1, 1, 0, 0, 0))]]
theorem ok_78 : okT 78 pT_78 = true := by decide +kernel
def pT_79 : MT := [[(0, e0 (.aload_n 0) 1), (1, (.getfield 14, 3, 7, 0, 1, 0)), (4, e0 (.iload_n 1) 1), (5, (.invokevirtual 93, 3, 1, 42, 2, 35)), (8, e0 (.ifCond .eq 10) 3), (11, e0 (.iload_n 2) 1), (12, (.invokestatic 102, 3, 1, 71, 1, 23)), (15, e0 (.ifCond .ne 6) 3)],
  [(18, e0 (.bipush (-2)) 2), (20, (.ireturn, 1, 1, 0, 0, 0)), (21, e0 (.aload_n 0) 1), (22, (.getfield 14, 3, 7, 0, 1, 0)), (25, (.getfield 64, 3, 3, 0, 1, 0)), (28, e0 (.iload_n 1) 1), (29, e0 .aaload 1), (30, e0 (.astore_n 3) 1), (31, e0 (.aload_n 3) 1)],
  [(32, e0 (.iload_n 2) 1), (33, (.invokevirtual 109, 3, 1, 23, 2, 65)), (36, e0 (.ifCond .eq 10) 3), (39, e0 (.aload_n 3) 1), (40, (.invokevirtual 96, 3, 1, 21, 1, 17)), (43, e0 (.goto 5) 3), (46, e0 (.bipush (-13)) 2)],
  [(48, (.ireturn, 1, 1, 0, 0, 0))]]
theorem ok_79 : okT 79 pT_79 = true := by decide +kernel
def pT_80 : MT := [[(0, e0 (.aload_n 0) 1), (1, (.getfield 14, 3, 7, 0, 1, 0)), (4, e0 (.iload_n 1) 1), (5, (.invokevirtual 93, 3, 1, 42, 2, 35)), (8, e0 (.ifCond .ne 6) 3), (11, e0 (.bipush (-2)) 2), (13, (.ireturn, 1, 1, 0, 0, 0)), (14, e0 (.aload_n 0) 1), (15, (.getfield 34, 3, 7, 4, 1, 0))],
  [(18, (.invokevirtual 112, 3, 1, 32, 1, 18)), (21, e0 (.aload_n 0) 1), (22, (.getfield 34, 3, 7, 4, 1, 0)), (25, e0 (.aload_n 0) 1), (26, (.getfield 14, 3, 7, 0, 1, 0)), (29, e0 (.aload_n 0) 1), (30, (.getfield 14, 3, 7, 0, 1, 0))],
  [(33, (.getfield 115, 3, 3, 3, 0, 0)), (36, (.invokevirtual 118, 3, 1, 33, 3, 98)), (39, e0 (.iconst 1) 1), (40, e0 (.iload_n 1) 1), (41, e0 .ishl 1), (42, e0 .iand 1), (43, e0 (.ifCond .ne 6) 3), (46, e0 (.bipush (-3)) 2)],
  [(48, (.ireturn, 1, 1, 0, 0, 0)), (49, e0 (.aload_n 0) 1), (50, (.getfield 14, 3, 7, 0, 1, 0)), (53, e0 .dup 1), (54, (.getfield 115, 3, 3, 3, 0, 0)), (57, e0 (.iconst 1) 1), (58, e0 (.iload_n 1) 1), (59, e0 .ishl 1), (60, e0 (.iconst (-1)) 1), (61, e0 .ixor 1), (62, e0 .iand 1), (63, (.putfield 115, 3, 3, 3, 0, 0))],
  [(66, e0 (.aload_n 0) 1), (67, (.getfield 14, 3, 7, 0, 1, 0)), (70, (.getfield 115, 3, 3, 3, 0, 0)), (73, (.invokestatic 122, 3, 1, 217, 1, 26)), (76, (.ireturn, 1, 1, 0, 0, 0))]]
theorem ok_80 : okT 80 pT_80 = true := by decide +kernel
def pT_81 : MT := [[(0, e0 (.aload_n 0) 1), (1, (.getfield 14, 3, 7, 0, 1, 0)), (4, e0 (.iload_n 1) 1), (5, (.invokevirtual 93, 3, 1, 42, 2, 35)), (8, e0 (.ifCond .ne 6) 3), (11, e0 (.bipush (-2)) 2), (13, (.ireturn, 1, 1, 0, 0, 0)), (14, e0 (.iload_n 2) 1), (15, e0 (.lookupswitch 57 #[(0, 25), (1, 41)]) 25)],
  [],
  [(40, e0 (.aload_n 0) 1), (41, (.getfield 14, 3, 7, 0, 1, 0)), (44, e0 (.iload_n 1) 1), (45, e0 (.aload_n 0) 1), (46, (.getfield 14, 3, 7, 0, 1, 0))],
  [(49, (.getfield 115, 3, 3, 3, 0, 0)), (52, (.invokevirtual 128, 3, 1, 45, 3, 83)), (55, (.ireturn, 1, 1, 0, 0, 0)), (56, e0 (.aload_n 0) 1), (57, (.getfield 14, 3, 7, 0, 1, 0)), (60, e0 (.iload_n 1) 1), (61, e0 (.aload_n 0) 1), (62, (.getfield 14, 3, 7, 0, 1, 0))],
  [(65, (.getfield 115, 3, 3, 3, 0, 0)), (68, (.invokevirtual 132, 3, 1, 43, 3, 83)), (71, (.ireturn, 1, 1, 0, 0, 0)), (72, e0 (.bipush (-2)) 2), (74, (.ireturn, 1, 1, 0, 0, 0))]]
theorem ok_81 : okT 81 pT_81 = true := by decide +kernel
def pT_82 : MT := [[(0, e0 (.aload_n 0) 1), (1, e0 (.iload_n 1) 1), (2, e0 (.iload_n 2) 1), (3, (.invokevirtual 135, 3, 1, 83, 3, 55)), (6, e0 (.ifCond .ne 6) 3), (9, e0 (.bipush (-2)) 2), (11, (.ireturn, 1, 1, 0, 0, 0)), (12, e0 (.iload_n 2) 1), (13, e0 (.iconst (-1)) 1), (14, e0 (.if_icmp .ne 18) 3)],
  [(17, e0 (.aload_n 0) 1), (18, (.getfield 14, 3, 7, 0, 1, 0)), (21, (.getfield 64, 3, 3, 0, 1, 0)), (24, e0 (.iload_n 1) 1), (25, e0 .aaload 1), (26, (.invokevirtual 139, 3, 1, 29, 1, 17)), (29, e0 (.goto 14) 3)],
  [(32, e0 (.aload_n 0) 1), (33, (.getfield 14, 3, 7, 0, 1, 0)), (36, (.getfield 142, 3, 3, 1, 1, 0)), (39, e0 (.iload_n 1) 1), (40, e0 .aaload 1), (41, e0 (.iload_n 2) 1), (42, e0 .iaload 1), (43, (.ireturn, 1, 1, 0, 0, 0))]]
theorem ok_82 : okT 82 pT_82 = true := by decide +kernel
def pT_83 : MT := [[(0, e0 (.aload_n 0) 1), (1, (.getfield 14, 3, 7, 0, 1, 0)), (4, e0 (.iload_n 1) 1), (5, (.invokevirtual 93, 3, 1, 42, 2, 35)), (8, e0 (.ifCond .eq 28) 3), (11, e0 (.iload_n 2) 1), (12, e0 (.iload_n 1) 1), (13, e0 (.if_icmp .eq 23) 3)],
  [(16, e0 (.iload_n 2) 1), (17, e0 (.iconst (-1)) 1), (18, e0 (.if_icmp .eq 14) 3), (21, e0 (.aload_n 0) 1), (22, (.getfield 14, 3, 7, 0, 1, 0)), (25, e0 (.iload_n 2) 1), (26, (.invokevirtual 93, 3, 1, 42, 2, 35)), (29, e0 (.ifCond .eq 7) 3)],
  [(32, e0 (.iconst 1) 1), (33, e0 (.goto 4) 3), (36, e0 (.iconst 0) 1), (37, (.ireturn, 1, 2, 0, 0, 0))]]
theorem ok_83 : okT 83 pT_83 = true := by decide +kernel
def pT_84 : MT := [[(0, e0 (.aload_n 0) 1), (1, (.getfield 14, 3, 7, 0, 1, 0)), (4, e0 (.iload_n 1) 1), (5, (.invokevirtual 93, 3, 1, 42, 2, 35)), (8, e0 (.ifCond .ne 6) 3), (11, e0 (.bipush (-2)) 2), (13, (.ireturn, 1, 1, 0, 0, 0)), (14, e0 (.aload_n 0) 1), (15, (.invokevirtual 146, 3, 1, 85, 1, 23))],
  [(18, e0 (.aload_n 0) 1), (19, (.getfield 27, 3, 7, 3, 1, 0)), (22, (.getfield 149, 3, 0, 0, 1, 0)), (25, e0 (.iload_n 1) 1), (26, e0 .iaload 1), (27, (.ireturn, 1, 1, 0, 0, 0))]]
theorem ok_84 : okT 84 pT_84 = true := by decide +kernel
def pT_85 : MT := [[(0, e0 (.aload_n 0) 1), (1, (.getfield 27, 3, 7, 3, 1, 0)), (4, e0 (.aload_n 0) 1), (5, (.getfield 14, 3, 7, 0, 1, 0)), (8, e0 (.aload_n 0) 1), (9, (.getfield 14, 3, 7, 0, 1, 0)), (12, (.getfield 115, 3, 3, 3, 0, 0)), (15, (.invokevirtual 230, 3, 1, 1, 3, 80))],
  [(18, e0 .return_ 1)]]
theorem ok_85 : okT 85 pT_85 = true := by decide +kernel
def pT_86 : MT := [[(0, e0 (.aload_n 0) 1), (1, e0 (.iload_n 1) 1), (2, e0 (.iload_n 2) 1), (3, (.invokevirtual 135, 3, 1, 83, 3, 55)), (6, e0 (.ifCond .ne 6) 3), (9, e0 (.bipush (-2)) 2), (11, (.ireturn, 1, 1, 0, 0, 0)), (12, e0 (.aload_n 0) 1), (13, (.invokevirtual 146, 3, 1, 85, 1, 23))],
  [(16, e0 (.iload_n 2) 1), (17, e0 (.iconst (-1)) 1), (18, e0 (.if_icmp .ne 14) 3), (21, e0 (.aload_n 0) 1), (22, (.getfield 27, 3, 7, 3, 1, 0)), (25, e0 (.iload_n 1) 1), (26, (.invokevirtual 153, 3, 1, 9, 2, 32)), (29, e0 (.goto 14) 3)],
  [(32, e0 (.aload_n 0) 1), (33, (.getfield 27, 3, 7, 3, 1, 0)), (36, (.getfield 156, 3, 0, 1, 1, 0)), (39, e0 (.iload_n 1) 1), (40, e0 .aaload 1), (41, e0 (.iload_n 2) 1), (42, e0 .iaload 1), (43, (.ireturn, 1, 1, 0, 0, 0))]]
theorem ok_86 : okT 86 pT_86 = true := by decide +kernel
def pT_87 : MT := [[(0, e0 (.aload_n 0) 1), (1, (.getfield 14, 3, 7, 0, 1, 0)), (4, e0 (.iload_n 1) 1), (5, (.invokevirtual 93, 3, 1, 42, 2, 35)), (8, e0 (.ifCond .eq 17) 3), (11, e0 (.iload_n 2) 1), (12, (.invokestatic 159, 3, 1, 88, 1, 23)), (15, e0 (.ifCond .eq 10) 3)],
  [(18, e0 (.iload_n 3) 1), (19, (.invokestatic 162, 3, 1, 89, 1, 23)), (22, e0 (.ifCond .ne 7) 3), (25, (.ldc2_w 165, 3, 1, 9223372036854775808, 1, 0)), (28, e0 .lreturn 1), (29, e0 (.aload_n 0) 1), (30, (.invokevirtual 146, 3, 1, 85, 1, 23))],
  [(33, e0 (.iload_n 2) 1), (34, e0 (.ifCond .ne 15) 3), (37, e0 (.aload_n 0) 1), (38, (.getfield 27, 3, 7, 3, 1, 0)), (41, (.getfield 167, 3, 0, 2, 1, 0)), (44, e0 (.iload_n 1) 1), (45, e0 .laload 1), (46, e0 (.goto 12) 3)],
  [(49, e0 (.aload_n 0) 1), (50, (.getfield 27, 3, 7, 3, 1, 0)), (53, (.getfield 171, 3, 0, 3, 1, 0)), (56, e0 (.iload_n 1) 1), (57, e0 .laload 1), (58, e0 (.lstore 4) 2), (60, e0 (.lload 4) 2), (62, (.ldc2_w 174, 3, 1, 20, 0, 0))],
  [(65, e0 (.aload_n 0) 1), (66, (.getfield 27, 3, 7, 3, 1, 0)), (69, e0 (.iload_n 1) 1), (70, (.invokevirtual 176, 3, 1, 3, 2, 32)), (73, e0 .i2l 1), (74, e0 .lmul 1), (75, e0 (.iload_n 3) 1), (76, (.invokestatic 179, 3, 1, 90, 3, 199)), (79, e0 .lreturn 1)]]
theorem ok_87 : okT 87 pT_87 = true := by decide +kernel
def pT_88 : MT := [[(0, e0 (.iload_n 0) 1), (1, e0 (.ifCond .eq 8) 3), (4, e0 (.iload_n 0) 1), (5, e0 (.iconst 1) 1), (6, e0 (.if_icmp .ne 7) 3), (9, e0 (.iconst 1) 1), (10, e0 (.goto 4) 3), (13, e0 (.iconst 0) 1), (14, (.ireturn, 1, 2, 0, 0, 0))]]
theorem ok_88 : okT 88 pT_88 = true := by decide +kernel
def pT_89 : MT := [[(0, e0 (.iload_n 0) 1), (1, e0 (.ifCond .eq 8) 3), (4, e0 (.iload_n 0) 1), (5, e0 (.iconst 1) 1), (6, e0 (.if_icmp .ne 7) 3), (9, e0 (.iconst 1) 1), (10, e0 (.goto 4) 3), (13, e0 (.iconst 0) 1), (14, (.ireturn, 1, 2, 0, 0, 0))]]
theorem ok_89 : okT 89 pT_89 = true := by decide +kernel
def pT_90 : MT := [[(0, e0 (.lload_n 2) 1), (1, e0 (.lstore 5) 2), (3, e0 (.lload_n 0) 1), (4, e0 (.lstore 7) 2), (6, e0 (.iconst 0) 1), (7, e0 (.istore 9) 2), (9, e0 (.iload 9) 2), (11, e0 (.bipush 100) 2), (13, e0 (.if_icmp .ge 31) 3)],
  [(16, e0 (.lload 7) 2), (18, e0 (.lconst 0) 1), (19, e0 .lcmp 1), (20, e0 (.ifCond .eq 24) 3), (23, e0 (.lload 5) 2), (25, e0 (.lload 7) 2), (27, e0 .lrem 1), (28, e0 (.lstore 10) 2), (30, e0 (.lload 7) 2)],
  [(32, e0 (.lstore 5) 2), (34, e0 (.lload 10) 2), (36, e0 (.lstore 7) 2), (38, e0 (.iinc 9 1) 3), (41, e0 (.goto (-32)) 3), (44, e0 (.lload 5) 2), (46, e0 (.lconst 0) 1), (47, e0 .lcmp 1)],
  [(48, e0 (.ifCond .ne 7) 3), (51, (.ldc2_w 165, 3, 1, 9223372036854775808, 1, 0)), (54, e0 .lreturn 1), (55, e0 (.iload 4) 2), (57, e0 (.ifCond .ne 7) 3), (60, e0 (.lload_n 0) 1), (61, e0 (.goto 4) 3)],
  [(64, e0 (.lload_n 2) 1), (65, e0 (.lload 5) 2), (67, e0 .ldiv 1), (68, e0 .lreturn 1)]]
theorem ok_90 : okT 90 pT_90 = true := by decide +kernel
def pT_91 : MT := [[(0, e0 (.aload_n 0) 1), (1, (.getfield 14, 3, 7, 0, 1, 0)), (4, e0 (.iload_n 1) 1), (5, (.invokevirtual 93, 3, 1, 42, 2, 35)), (8, e0 (.ifCond .eq 10) 3), (11, e0 (.iload_n 3) 1), (12, (.invokestatic 159, 3, 1, 88, 1, 23)), (15, e0 (.ifCond .ne 6) 3)],
  [(18, e0 (.bipush (-2)) 2), (20, (.ireturn, 1, 1, 0, 0, 0)), (21, e0 (.aload_n 0) 1), (22, (.invokevirtual 146, 3, 1, 85, 1, 23)), (25, e0 (.aload_n 0) 1), (26, (.getfield 27, 3, 7, 3, 1, 0)), (29, (.getfield 183, 3, 0, 4, 1, 0))],
  [(32, e0 (.iload_n 1) 1), (33, e0 .aaload 1), (34, e0 (.astore 4) 2), (36, e0 (.iload_n 2) 1), (37, e0 (.iconst (-1)) 1), (38, e0 (.if_icmp .lt 12) 3), (41, e0 (.iload_n 2) 1), (42, e0 (.aload 4) 2), (44, (.getfield 187, 3, 4, 5, 0, 0)), (47, e0 (.if_icmp .lt 6) 3)],
  [(50, e0 (.bipush (-12)) 2), (52, (.ireturn, 1, 1, 0, 0, 0)), (53, e0 (.iload_n 2) 1), (54, e0 (.iconst (-1)) 1), (55, e0 (.if_icmp .ne 9) 3), (58, e0 (.aload 4) 2), (60, (.getfield 187, 3, 4, 5, 0, 0)), (63, (.ireturn, 1, 1, 0, 0, 0))],
  [(64, e0 (.iload_n 3) 1), (65, e0 (.ifCond .ne 13) 3), (68, e0 (.aload 4) 2), (70, (.getfield 192, 3, 4, 2, 1, 0)), (73, e0 (.iload_n 2) 1), (74, e0 .iaload 1), (75, e0 (.goto 10) 3), (78, e0 (.aload 4) 2)],
  [(80, (.getfield 195, 3, 4, 3, 1, 0)), (83, e0 (.iload_n 2) 1), (84, e0 .iaload 1), (85, (.ireturn, 1, 1, 0, 0, 0))]]
theorem ok_91 : okT 91 pT_91 = true := by decide +kernel
def pT_92 : MT := [[(0, e0 (.aload_n 0) 1), (1, (.getfield 14, 3, 7, 0, 1, 0)), (4, e0 (.iload_n 1) 1), (5, (.invokevirtual 93, 3, 1, 42, 2, 35)), (8, e0 (.ifCond .ne 6) 3), (11, e0 (.bipush (-2)) 2), (13, (.ireturn, 1, 1, 0, 0, 0)), (14, e0 (.aload_n 0) 1), (15, (.invokevirtual 146, 3, 1, 85, 1, 23))],
  [(18, e0 (.aload_n 0) 1), (19, (.getfield 27, 3, 7, 3, 1, 0)), (22, e0 (.iload_n 1) 1), (23, e0 (.iconst 0) 1), (24, e0 (.iconst 0) 1), (25, (.invokevirtual 198, 3, 1, 8, 4, 176)), (28, (.ireturn, 1, 1, 0, 0, 0))]]
theorem ok_92 : okT 92 pT_92 = true := by decide +kernel
def pT_93 : MT := [[(0, e0 (.aload_n 0) 1), (1, (.invokevirtual 146, 3, 1, 85, 1, 23)), (4, e0 (.iload_n 1) 1), (5, e0 (.tableswitch 79 0 4 #[35, 44, 53, 62, 71]) 35)],
  [],
  [(40, e0 (.aload_n 0) 1), (41, (.getfield 27, 3, 7, 3, 1, 0)), (44, e0 (.iconst 1) 1), (45, (.invokevirtual 202, 3, 1, 10, 2, 64))],
  [(48, (.ireturn, 1, 1, 0, 0, 0)), (49, e0 (.aload_n 0) 1), (50, (.getfield 27, 3, 7, 3, 1, 0)), (53, e0 (.iconst 2) 1), (54, (.invokevirtual 202, 3, 1, 10, 2, 64)), (57, (.ireturn, 1, 1, 0, 0, 0)), (58, e0 (.aload_n 0) 1), (59, (.getfield 27, 3, 7, 3, 1, 0)), (62, e0 (.iconst 3) 1), (63, (.invokevirtual 202, 3, 1, 10, 2, 64))],
  [(66, (.ireturn, 1, 1, 0, 0, 0)), (67, e0 (.aload_n 0) 1), (68, (.getfield 27, 3, 7, 3, 1, 0)), (71, e0 (.iconst 0) 1), (72, (.invokevirtual 202, 3, 1, 10, 2, 64)), (75, (.ireturn, 1, 1, 0, 0, 0)), (76, e0 (.aload_n 0) 1), (77, (.getfield 14, 3, 7, 0, 1, 0))],
  [(80, (.getfield 115, 3, 3, 3, 0, 0)), (83, (.ireturn, 1, 1, 0, 0, 0)), (84, e0 (.bipush (-2)) 2), (86, (.ireturn, 1, 1, 0, 0, 0))]]
theorem ok_93 : okT 93 pT_93 = true := by decide +kernel
def pT_94 : MT := [[(0, e0 (.aload_n 0) 1), (1, (.invokevirtual 146, 3, 1, 85, 1, 23)), (4, e0 (.aload_n 0) 1), (5, (.getfield 27, 3, 7, 3, 1, 0)), (8, e0 (.iconst 0) 1), (9, e0 (.iconst 0) 1), (10, (.invokevirtual 205, 3, 1, 6, 3, 80)), (13, (.invokestatic 208, 3, 1, 95, 1, 39))],
  [(16, e0 (.istore_n 2) 1), (17, e0 (.iload_n 2) 1), (18, e0 (.iconst (-1)) 1), (19, e0 (.if_icmp .ne 7) 3), (22, e0 (.iconst (-1)) 1), (23, e0 (.goto 11) 3), (26, e0 (.aload_n 0) 1), (27, (.getfield 27, 3, 7, 3, 1, 0)), (30, e0 (.iload_n 2) 1), (31, (.invokevirtual 211, 3, 1, 11, 2, 80))],
  [(34, e0 (.istore_n 3) 1), (35, e0 (.iconst 0) 1), (36, e0 (.istore 4) 2), (38, e0 (.iconst (-1)) 1), (39, e0 (.istore 5) 2), (41, e0 (.iload_n 3) 1), (42, e0 (.istore 6) 2), (44, e0 (.iconst 0) 1), (45, e0 (.istore 7) 2), (47, e0 (.iload 7) 2)],
  [(49, e0 (.bipush 7) 2), (51, e0 (.if_icmp .ge 33) 3), (54, e0 (.iload 6) 2), (56, e0 (.iconst (-1)) 1), (57, e0 (.if_icmp .eq 27) 3), (60, e0 (.iload 6) 2), (62, e0 (.istore 5) 2)],
  [(64, e0 (.iinc 4 1) 3), (67, e0 (.aload_n 0) 1), (68, (.getfield 27, 3, 7, 3, 1, 0)), (71, e0 (.iload 6) 2), (73, (.invokevirtual 211, 3, 1, 11, 2, 80)), (76, e0 (.istore 6) 2), (78, e0 (.iinc 7 1) 3)],
  [(81, e0 (.goto (-34)) 3), (84, e0 (.iload_n 1) 1), (85, e0 (.tableswitch 65 0 4 #[35, 37, 57, 59, 62]) 35)],
  [],
  [(120, e0 (.iload_n 2) 1), (121, (.ireturn, 1, 1, 0, 0, 0)), (122, e0 (.iload_n 2) 1), (123, e0 (.iconst (-1)) 1), (124, e0 (.if_icmp .ne 7) 3), (127, e0 (.iconst 0) 1)],
  [(128, e0 (.goto 13) 3), (131, e0 (.aload_n 0) 1), (132, (.getfield 27, 3, 7, 3, 1, 0)), (135, e0 (.iload_n 2) 1), (136, e0 (.iconst 0) 1), (137, e0 (.iconst 0) 1), (138, (.invokevirtual 214, 3, 1, 7, 4, 80)), (141, (.ireturn, 1, 1, 0, 0, 0)), (142, e0 (.iload_n 3) 1), (143, (.ireturn, 1, 1, 0, 0, 0))],
  [(144, e0 (.iload 4) 2), (146, (.ireturn, 1, 1, 0, 0, 0)), (147, e0 (.iload 5) 2), (149, (.ireturn, 1, 1, 0, 0, 0)), (150, e0 (.bipush (-2)) 2), (152, (.ireturn, 1, 1, 0, 0, 0))]]
theorem ok_94 : okT 94 pT_94 = true := by decide +kernel
def pT_95 : MT := [[(0, e0 (.iconst 0) 1), (1, e0 (.istore_n 1) 1), (2, e0 (.iload_n 1) 1), (3, e0 (.bipush 7) 2), (5, e0 (.if_icmp .ge 19) 3), (8, e0 (.iload_n 1) 1), (9, e0 (.iload_n 0) 1), (10, (.invokestatic 331, 3, 1, 75, 2, 39)), (13, e0 (.ifCond .eq 5) 3)],
  [(16, e0 (.iload_n 1) 1), (17, (.ireturn, 1, 1, 0, 0, 0)), (18, e0 (.iinc 1 1) 3), (21, e0 (.goto (-19)) 3), (24, e0 (.iconst (-1)) 1), (25, (.ireturn, 1, 1, 0, 0, 0))]]
theorem ok_95 : okT 95 pT_95 = true := by decide +kernel
def pT_96 : MT := [[(0, e0 (.iload_n 1) 1), (1, (.invokestatic 217, 3, 1, 97, 1, 23)), (4, e0 (.ifCond .eq 13) 3), (7, e0 (.iload_n 2) 1), (8, e0 (.ifCond .lt 9) 3), (11, e0 (.iload_n 2) 1), (12, e0 (.bipush 100) 2), (14, e0 (.if_icmp .lt 6) 3)],
  [(17, e0 (.bipush (-2)) 2), (19, (.ireturn, 1, 1, 0, 0, 0)), (20, e0 (.aload_n 0) 1), (21, (.invokevirtual 146, 3, 1, 85, 1, 23)), (24, e0 (.aload_n 0) 1), (25, (.getfield 27, 3, 7, 3, 1, 0)), (28, e0 (.iload_n 1) 1), (29, e0 (.iload_n 2) 1), (30, (.invokevirtual 205, 3, 1, 6, 3, 80))],
  [(33, (.ireturn, 1, 1, 0, 0, 0))]]
theorem ok_96 : okT 96 pT_96 = true := by decide +kernel
def pT_97 : MT := [[(0, e0 (.iload_n 0) 1), (1, e0 (.ifCond .lt 12) 3), (4, e0 (.iload_n 0) 1), (5, e0 (.iconst 4) 1), (6, e0 (.if_icmp .ge 7) 3), (9, e0 (.iconst 1) 1), (10, e0 (.goto 4) 3), (13, e0 (.iconst 0) 1), (14, (.ireturn, 1, 2, 0, 0, 0))]]
theorem ok_97 : okT 97 pT_97 = true := by decide +kernel
def pT_98 : MT := [[(0, e0 (.iload_n 1) 1), (1, (.invokestatic 217, 3, 1, 97, 1, 23)), (4, e0 (.ifCond .ne 6) 3), (7, e0 (.bipush (-2)) 2), (9, (.ireturn, 1, 1, 0, 0, 0)), (10, e0 (.aload_n 0) 1), (11, (.invokevirtual 146, 3, 1, 85, 1, 23)), (14, e0 (.bipush 99) 2)],
  [(16, e0 (.istore_n 2) 1), (17, e0 (.iload_n 2) 1), (18, e0 (.ifCond .lt 23) 3), (21, e0 (.aload_n 0) 1), (22, (.getfield 27, 3, 7, 3, 1, 0)), (25, e0 (.iload_n 1) 1), (26, e0 (.iload_n 2) 1), (27, (.invokevirtual 205, 3, 1, 6, 3, 80)), (30, e0 (.ifCond .ne 5) 3)],
  [(33, e0 (.iload_n 2) 1), (34, (.ireturn, 1, 1, 0, 0, 0)), (35, e0 (.iinc 2 (-1)) 3), (38, e0 (.goto (-21)) 3), (41, e0 (.iconst (-1)) 1), (42, (.ireturn, 1, 1, 0, 0, 0))]]
theorem ok_98 : okT 98 pT_98 = true := by decide +kernel
def pT_99 : MT := [[(0, e0 (.aload_n 0) 1), (1, (.getfield 34, 3, 7, 4, 1, 0)), (4, (.invokevirtual 112, 3, 1, 32, 1, 18)), (7, e0 (.aload_n 0) 1), (8, (.getfield 34, 3, 7, 4, 1, 0)), (11, e0 (.aload_n 0) 1), (12, (.getfield 14, 3, 7, 0, 1, 0)), (15, e0 (.aload_n 0) 1)],
  [(16, (.getfield 14, 3, 7, 0, 1, 0)), (19, (.getfield 115, 3, 3, 3, 0, 0)), (22, (.invokevirtual 118, 3, 1, 33, 3, 98)), (25, (.ireturn, 1, 1, 0, 0, 0))]]
theorem ok_99 : okT 99 pT_99 = true := by decide +kernel
def pT_100 : MT := [[(0, e0 (.aload_n 0) 1), (1, (.getfield 14, 3, 7, 0, 1, 0)), (4, e0 (.iload_n 1) 1), (5, (.invokevirtual 93, 3, 1, 42, 2, 35)), (8, e0 (.ifCond .eq 21) 3), (11, e0 (.aload_n 0) 1), (12, (.getfield 14, 3, 7, 0, 1, 0)), (15, e0 (.iload_n 1) 1)],
  [(16, e0 (.aload_n 0) 1), (17, (.getfield 14, 3, 7, 0, 1, 0)), (20, (.getfield 115, 3, 3, 3, 0, 0)), (23, (.invokevirtual 220, 3, 1, 44, 3, 131)), (26, e0 (.goto 5) 3), (29, e0 (.bipush (-2)) 2), (31, (.ireturn, 1, 1, 0, 0, 0))]]
theorem ok_100 : okT 100 pT_100 = true := by decide +kernel
def pT_101 : MT := [[(0, e0 (.iload_n 1) 1), (1, e0 (.iconst (-1)) 1), (2, e0 (.if_icmp .lt 17) 3), (5, e0 (.iload_n 1) 1), (6, e0 (.aload_n 0) 1), (7, (.getfield 14, 3, 7, 0, 1, 0)), (10, (.getfield 115, 3, 3, 3, 0, 0)), (13, (.invokestatic 122, 3, 1, 217, 1, 26))],
  [(16, e0 (.if_icmp .lt 6) 3), (19, e0 (.bipush (-12)) 2), (21, (.ireturn, 1, 1, 0, 0, 0)), (22, e0 (.aload_n 0) 1), (23, (.getfield 34, 3, 7, 4, 1, 0)), (26, e0 (.aload_n 0) 1), (27, (.getfield 14, 3, 7, 0, 1, 0)), (30, (.invokevirtual 223, 3, 1, 34, 2, 66))],
  [(33, e0 (.istore_n 2) 1), (34, e0 (.iload_n 1) 1), (35, e0 (.iconst (-1)) 1), (36, e0 (.if_icmp .ne 5) 3), (39, e0 (.iload_n 2) 1), (40, (.ireturn, 1, 1, 0, 0, 0)), (41, e0 (.iload_n 2) 1), (42, e0 (.ifCond .ne 7) 3), (45, e0 (.iconst (-1)) 1), (46, e0 (.goto 12) 3)],
  [(49, e0 (.aload_n 0) 1), (50, (.getfield 34, 3, 7, 4, 1, 0)), (53, (.getfield 227, 3, 2, 4, 1, 0)), (56, e0 (.iload_n 1) 1), (57, e0 .iaload 1), (58, (.ireturn, 1, 1, 0, 0, 0))]]
theorem ok_101 : okT 101 pT_101 = true := by decide +kernel
def pT_102 : MT := [[(0, e0 (.aload_n 0) 1), (1, (.getfield 14, 3, 7, 0, 1, 0)), (4, e0 (.iload_n 1) 1), (5, (.invokevirtual 93, 3, 1, 42, 2, 35)), (8, e0 (.ifCond .ne 6) 3), (11, e0 (.bipush (-2)) 2), (13, (.ireturn, 1, 1, 0, 0, 0)), (14, e0 (.aload_n 0) 1), (15, (.getfield 27, 3, 7, 3, 1, 0))],
  [(18, e0 (.aload_n 0) 1), (19, (.getfield 14, 3, 7, 0, 1, 0)), (22, e0 (.aload_n 0) 1), (23, (.getfield 14, 3, 7, 0, 1, 0)), (26, (.getfield 115, 3, 3, 3, 0, 0)), (29, e0 (.iconst 1) 1), (30, e0 (.iload_n 1) 1), (31, e0 .ishl 1)],
  [(32, e0 (.iconst (-1)) 1), (33, e0 .ixor 1), (34, e0 .iand 1), (35, (.invokevirtual 230, 3, 1, 1, 3, 80)), (38, e0 (.aload_n 0) 1), (39, (.getfield 27, 3, 7, 3, 1, 0)), (42, e0 (.iconst 0) 1), (43, e0 (.iconst 0) 1), (44, (.invokevirtual 205, 3, 1, 6, 3, 80)), (47, (.ireturn, 1, 1, 0, 0, 0))]]
theorem ok_102 : okT 102 pT_102 = true := by decide +kernel
def pT_103 : MT := [[(0, e0 (.iload_n 1) 1), (1, (.invokestatic 233, 3, 1, 72, 1, 23)), (4, e0 (.ifCond .eq 20) 3), (7, e0 (.iload_n 2) 1), (8, e0 .i2l 1), (9, (.invokestatic 105, 3, 1, 74, 1, 39)), (12, e0 (.ifCond .eq 12) 3), (15, e0 (.iload_n 3) 1)],
  [(16, e0 (.ifCond .eq 11) 3), (19, e0 (.iload_n 3) 1), (20, e0 (.iconst 1) 1), (21, e0 (.if_icmp .eq 6) 3), (24, e0 (.bipush (-2)) 2), (26, (.ireturn, 1, 1, 0, 0, 0)), (27, e0 (.aload_n 0) 1), (28, (.getfield 14, 3, 7, 0, 1, 0)), (31, (.getfield 236, 3, 3, 2, 0, 0))],
  [(34, e0 (.bipush 7) 2), (36, e0 (.if_icmp .lt 6) 3), (39, e0 (.bipush (-4)) 2), (41, (.ireturn, 1, 1, 0, 0, 0)), (42, e0 (.iconst (-1)) 1), (43, e0 (.istore 4) 2), (45, e0 (.iconst 0) 1), (46, e0 (.istore 5) 2)],
  [(48, e0 (.iconst 0) 1), (49, e0 (.istore 6) 2), (51, e0 (.iload 6) 2), (53, e0 (.bipush 64) 2), (55, e0 (.if_icmp .ge 36) 3), (58, e0 (.aload_n 0) 1), (59, e0 (.iload 6) 2), (61, e0 (.iload_n 1) 1), (62, e0 (.iload_n 2) 1), (63, (.invokevirtual 239, 3, 1, 104, 4, 71))],
  [(66, e0 (.ifCond .ne 6) 3), (69, e0 (.goto 16) 3), (72, e0 (.iload 4) 2), (74, e0 (.iconst (-1)) 1), (75, e0 (.if_icmp .ne 7) 3), (78, e0 (.iload 6) 2)],
  [(80, e0 (.istore 4) 2), (82, e0 (.iinc 5 1) 3), (85, e0 (.iinc 6 1) 3), (88, e0 (.goto (-37)) 3), (91, e0 (.iload_n 3) 1), (92, e0 (.ifCond .ne 8) 3), (95, e0 (.iload 4) 2)],
  [(97, e0 (.goto 5) 3), (100, e0 (.iload 5) 2), (102, (.ireturn, 1, 1, 0, 0, 0))]]
theorem ok_103 : okT 103 pT_103 = true := by decide +kernel
def pT_104 : MT := [[(0, e0 (.aload_n 0) 1), (1, (.getfield 21, 3, 7, 2, 1, 0)), (4, e0 (.aload_n 0) 1), (5, (.getfield 14, 3, 7, 0, 1, 0)), (8, (.invokevirtual 301, 3, 1, 46, 2, 51)), (11, e0 (.aload_n 0) 1), (12, (.getfield 21, 3, 7, 2, 1, 0)), (15, e0 (.iconst 0) 1)],
  [(16, e0 (.iload_n 1) 1), (17, e0 (.bipush 8) 2), (19, e0 .irem 1), (20, e0 (.iload_n 1) 1), (21, e0 (.bipush 8) 2), (23, e0 .idiv 1), (24, e0 (.iload_n 2) 1), (25, e0 (.iload_n 3) 1), (26, (.invokevirtual 56, 3, 1, 38, 6, 147)), (29, e0 (.ifCond .ge 5) 3)],
  [(32, e0 (.iconst 0) 1), (33, (.ireturn, 1, 2, 0, 0, 0)), (34, e0 (.aload_n 0) 1), (35, (.getfield 27, 3, 7, 3, 1, 0)), (38, e0 (.aload_n 0) 1), (39, (.getfield 21, 3, 7, 2, 1, 0)), (42, e0 (.aload_n 0) 1), (43, (.getfield 21, 3, 7, 2, 1, 0)), (46, (.getfield 115, 3, 3, 3, 0, 0))],
  [(49, (.invokevirtual 230, 3, 1, 1, 3, 80)), (52, e0 (.aload_n 0) 1), (53, (.getfield 27, 3, 7, 3, 1, 0)), (56, e0 (.iconst 0) 1), (57, e0 (.iconst 0) 1), (58, (.invokevirtual 205, 3, 1, 6, 3, 80)), (61, e0 (.ifCond .ne 7) 3)],
  [(64, e0 (.iconst 1) 1), (65, e0 (.goto 4) 3), (68, e0 (.iconst 0) 1), (69, (.ireturn, 1, 2, 0, 0, 0))]]
theorem ok_104 : okT 104 pT_104 = true := by decide +kernel
def pT_105 : MT := [[(0, e0 (.iload_n 2) 1), (1, e0 (.iconst 1) 1), (2, e0 (.if_icmp .lt 9) 3), (5, e0 (.iload_n 2) 1), (6, e0 (.bipush 30) 2), (8, e0 (.if_icmp .le 6) 3), (11, e0 (.bipush (-2)) 2), (13, (.ireturn, 1, 1, 0, 0, 0)), (14, e0 (.aload_n 0) 1), (15, (.invokevirtual 146, 3, 1, 85, 1, 23))],
  [(18, e0 (.aload_n 0) 1), (19, e0 (.iload_n 1) 1), (20, e0 (.iload_n 2) 1), (21, (.invokevirtual 243, 3, 1, 106, 3, 119)), (24, (.ireturn, 1, 1, 0, 0, 0))]]
theorem ok_105 : okT 105 pT_105 = true := by decide +kernel
def pT_106 : MT := [[(0, e0 (.iload_n 1) 1), (1, e0 (.istore_n 3) 1), (2, e0 (.iconst 0) 1), (3, e0 (.istore 4) 2), (5, e0 (.iload 4) 2), (7, e0 (.iload_n 2) 1), (8, e0 (.if_icmp .ge 53) 3), (11, e0 (.iload_n 3) 1), (12, (.invokestatic 327, 3, 1, 107, 1, 23)), (15, e0 (.istore_n 3) 1)],
  [(16, e0 (.iload_n 3) 1), (17, e0 (.bipush 9) 2), (19, e0 .iushr 1), (20, e0 (.iconst 4) 1), (21, e0 .irem 1), (22, e0 (.istore 5) 2), (24, e0 (.iload_n 3) 1), (25, (.invokestatic 327, 3, 1, 107, 1, 23)), (28, e0 (.istore_n 3) 1), (29, e0 (.iload_n 3) 1), (30, e0 (.bipush 9) 2)],
  [(32, e0 .iushr 1), (33, e0 (.bipush 60) 2), (35, e0 .irem 1), (36, e0 (.istore 6) 2), (38, e0 (.aload_n 0) 1), (39, (.getfield 27, 3, 7, 3, 1, 0)), (42, e0 (.iload 5) 2), (44, e0 (.iload 6) 2), (46, (.invokevirtual 205, 3, 1, 6, 3, 80))],
  [(49, e0 (.ifCond .eq 6) 3), (52, e0 (.iload 4) 2), (54, (.ireturn, 1, 1, 0, 0, 0)), (55, e0 (.iinc 4 1) 3), (58, e0 (.goto (-53)) 3), (61, e0 (.iconst (-1)) 1), (62, (.ireturn, 1, 1, 0, 0, 0))]]
theorem ok_106 : okT 106 pT_106 = true := by decide +kernel
def pT_107 : MT := [[(0, e0 (.iload_n 0) 1), (1, (.ldc_w 330, 3, 1, 1103515245, 0, 0)), (4, e0 .imul 1), (5, e0 (.sipush 12345) 3), (8, e0 .iadd 1), (9, (.ireturn, 1, 1, 0, 0, 0))]]
theorem ok_107 : okT 107 pT_107 = true := by decide +kernel
def pT_108 : MT := [[(0, e0 (.iload_n 2) 1), (1, e0 (.iconst 1) 1), (2, e0 (.if_icmp .lt 28) 3), (5, e0 (.iload_n 2) 1), (6, e0 (.bipush 20) 2), (8, e0 (.if_icmp .gt 22) 3), (11, e0 (.iload_n 3) 1), (12, e0 (.iconst 1) 1), (13, e0 (.if_icmp .lt 17) 3)],
  [(16, e0 (.iload_n 3) 1), (17, e0 (.bipush 30) 2), (19, e0 (.if_icmp .gt 11) 3), (22, e0 (.iload 4) 2), (24, (.invokestatic 162, 3, 1, 89, 1, 23)), (27, e0 (.ifCond .ne 6) 3), (30, e0 (.bipush (-2)) 2)],
  [(32, (.ireturn, 1, 1, 0, 0, 0)), (33, e0 (.aload_n 0) 1), (34, (.invokevirtual 146, 3, 1, 85, 1, 23)), (37, e0 (.iconst 0) 1), (38, e0 (.istore 5) 2), (40, e0 (.iconst 0) 1), (41, e0 (.istore 6) 2), (43, e0 (.iload 6) 2), (45, e0 (.iload_n 2) 1), (46, e0 (.if_icmp .ge 25) 3)],
  [(49, e0 (.aload_n 0) 1), (50, e0 (.iload_n 1) 1), (51, e0 (.iload 6) 2), (53, e0 .iadd 1), (54, e0 (.iload_n 3) 1), (55, (.invokevirtual 243, 3, 1, 106, 3, 119)), (58, e0 (.iconst (-1)) 1), (59, e0 (.if_icmp .ne 6) 3), (62, e0 (.iinc 5 1) 3)],
  [(65, e0 (.iinc 6 1) 3), (68, e0 (.goto (-25)) 3), (71, e0 (.iload 5) 2), (73, e0 .i2l 1), (74, e0 (.iload_n 2) 1), (75, e0 .i2l 1), (76, e0 (.iload 4) 2), (78, (.invokestatic 179, 3, 1, 90, 3, 199))],
  [(81, e0 .l2i 1), (82, (.ireturn, 1, 1, 0, 0, 0))]]
theorem ok_108 : okT 108 pT_108 = true := by decide +kernel
