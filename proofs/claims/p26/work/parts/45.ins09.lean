/-! ===== more instructions ===== -/
def pT_205 : MT := [[(0, e0 (.iload_n 1) 1), (1, (.invokestatic 308, 3, 1, 203, 1, 24)), (4, e0 (.ifCond .ne 6) 3), (7, e0 (.bipush (-2)) 2), (9, (.ireturn, 1, 1, 0, 0, 0)), (10, e0 (.aload_n 0) 1), (11, (.invokevirtual 244, 3, 1, 185, 1, 56)), (14, e0 (.aload_n 0) 1), (15, (.getfield 241, 3, 8, 17, 0, 0))],
  [(18, e0 (.aload_n 0) 1), (19, (.invokevirtual 75, 3, 1, 128, 1, 24)), (22, (.invokestatic 214, 3, 1, 165, 1, 56)), (25, e0 (.if_icmp .ge 5) 3), (28, e0 (.iconst (-1)) 1), (29, (.ireturn, 1, 1, 0, 0, 0)), (30, e0 (.aload_n 0) 1), (31, (.getfield 55, 3, 8, 26, 1, 0))],
  [(34, e0 (.iload_n 1) 1), (35, e0 (.iconst 0) 1), (36, e0 .iastore 1), (37, e0 (.aload_n 0) 1), (38, (.getfield 58, 3, 8, 27, 1, 0)), (41, e0 (.iload_n 1) 1), (42, e0 (.aload_n 0) 1), (43, (.getfield 241, 3, 8, 17, 0, 0)), (46, e0 .iastore 1), (47, e0 (.iconst 0) 1)],
  [(48, e0 (.istore_n 2) 1), (49, e0 (.iload_n 2) 1), (50, e0 (.bipush 40) 2), (52, e0 (.if_icmp .ge 38) 3), (55, e0 (.aload_n 0) 1), (56, (.getfield 61, 3, 8, 28, 1, 0)), (59, e0 (.bipush 40) 2), (61, e0 (.iload_n 1) 1), (62, e0 .imul 1), (63, e0 (.iload_n 2) 1)],
  [(64, e0 .iadd 1), (65, e0 (.iload_n 2) 1), (66, e0 (.aload_n 0) 1), (67, (.getfield 241, 3, 8, 17, 0, 0)), (70, e0 (.if_icmp .ge 12) 3), (73, e0 (.aload_n 0) 1), (74, (.getfield 39, 3, 8, 16, 1, 0)), (77, e0 (.iload_n 2) 1), (78, e0 .iaload 1), (79, e0 (.goto 4) 3)],
  [(82, e0 (.iconst 0) 1), (83, e0 .iastore 1), (84, e0 (.iinc 2 1) 3), (87, e0 (.goto (-38)) 3), (90, e0 (.aload_n 0) 1), (91, (.getfield 241, 3, 8, 17, 0, 0)), (94, (.ireturn, 1, 1, 0, 0, 0))]]
theorem ok_205 : okT 205 pT_205 = true := by decide +kernel
def pT_206 : MT := [[(0, e0 (.iload_n 1) 1), (1, (.invokestatic 308, 3, 1, 203, 1, 24)), (4, e0 (.ifCond .eq 23) 3), (7, e0 (.iload_n 2) 1), (8, e0 (.iconst 0) 1), (9, e0 (.iconst 1) 1), (10, (.invokestatic 67, 3, 1, 125, 3, 56)), (13, e0 (.ifCond .eq 14) 3)],
  [(16, e0 (.iload 4) 2), (18, e0 (.iconst 0) 1), (19, e0 (.bipush 7) 2), (21, (.invokestatic 67, 3, 1, 125, 3, 56)), (24, e0 (.ifCond .ne 6) 3), (27, e0 (.bipush (-2)) 2), (29, (.ireturn, 1, 1, 0, 0, 0)), (30, e0 (.aload_n 0) 1), (31, (.getfield 55, 3, 8, 26, 1, 0))],
  [(34, e0 (.iload_n 1) 1), (35, e0 .iaload 1), (36, e0 (.ifCond .ge 6) 3), (39, e0 (.bipush (-11)) 2), (41, (.ireturn, 1, 1, 0, 0, 0)), (42, e0 (.aload_n 0) 1), (43, (.getfield 55, 3, 8, 26, 1, 0)), (46, e0 (.iload_n 1) 1), (47, e0 .iaload 1)],
  [(48, e0 (.iload_n 2) 1), (49, e0 (.if_icmp .eq 6) 3), (52, e0 (.bipush (-13)) 2), (54, (.ireturn, 1, 1, 0, 0, 0)), (55, e0 (.iconst 0) 1), (56, e0 (.istore 5) 2), (58, e0 (.iconst 0) 1), (59, e0 (.istore 6) 2), (61, e0 (.iload 6) 2), (63, e0 (.iload 4) 2)],
  [(65, e0 (.if_icmp .ge 116) 3), (68, e0 (.iload_n 3) 1), (69, e0 .i2l 1), (70, e0 (.iconst 5) 1), (71, e0 (.iload 6) 2), (73, e0 .imul 1), (74, e0 .i2l 1), (75, e0 .ladd 1), (76, e0 (.lstore 7) 2), (78, e0 (.lload 7) 2)],
  [(80, e0 (.lconst 0) 1), (81, e0 .lcmp 1), (82, e0 (.ifCond .lt 20) 3), (85, e0 (.lload 7) 2), (87, (.ldc2_w 314, 3, 1, 4, 0, 0)), (90, e0 .ladd 1), (91, e0 (.aload_n 0) 1), (92, (.getfield 58, 3, 8, 27, 1, 0)), (95, e0 (.iload_n 1) 1)],
  [(96, e0 .iaload 1), (97, e0 .i2l 1), (98, e0 .lcmp 1), (99, e0 (.ifCond .lt 6) 3), (102, e0 (.bipush (-12)) 2), (104, (.ireturn, 1, 1, 0, 0, 0)), (105, e0 (.bipush 40) 2), (107, e0 (.iload_n 1) 1), (108, e0 .imul 1), (109, e0 (.lload 7) 2), (111, e0 .l2i 1)],
  [(112, e0 .iadd 1), (113, e0 (.istore 9) 2), (115, e0 (.iload 5) 2), (117, e0 (.aload_n 0) 1), (118, e0 (.aload_n 0) 1), (119, (.getfield 61, 3, 8, 28, 1, 0)), (122, e0 (.iload 9) 2), (124, e0 .iaload 1), (125, e0 (.aload_n 0) 1), (126, (.getfield 61, 3, 8, 28, 1, 0))],
  [(129, e0 (.iload 9) 2), (131, e0 (.iconst 1) 1), (132, e0 .iadd 1), (133, e0 .iaload 1), (134, e0 (.aload_n 0) 1), (135, (.getfield 61, 3, 8, 28, 1, 0)), (138, e0 (.iload 9) 2), (140, e0 (.iconst 2) 1), (141, e0 .iadd 1), (142, e0 .iaload 1), (143, e0 (.aload_n 0) 1)],
  [(144, (.getfield 61, 3, 8, 28, 1, 0)), (147, e0 (.iload 9) 2), (149, e0 (.iconst 3) 1), (150, e0 .iadd 1), (151, e0 .iaload 1), (152, e0 (.aload_n 0) 1), (153, (.getfield 61, 3, 8, 28, 1, 0)), (156, e0 (.iload 9) 2), (158, e0 (.iconst 4) 1), (159, e0 .iadd 1)],
  [(160, e0 .iaload 1), (161, (.invokevirtual 276, 3, 1, 124, 6, 120)), (164, e0 (.ifCond .lt 7) 3), (167, e0 (.iconst 1) 1), (168, e0 (.goto 4) 3), (171, e0 (.iconst 0) 1), (172, e0 .iadd 1), (173, e0 (.istore 5) 2), (175, e0 (.iinc 6 1) 3)],
  [(178, e0 (.goto (-117)) 3), (181, e0 (.iload 5) 2), (183, (.ireturn, 1, 1, 0, 0, 0))]]
theorem ok_206 : okT 206 pT_206 = true := by decide +kernel
def pT_207 : MT := [[(0, e0 (.iconst 0) 1), (1, e0 (.istore_n 1) 1), (2, e0 (.iload_n 1) 1), (3, e0 (.bipush 74) 2), (5, e0 (.if_icmp .ge 21) 3), (8, e0 (.aload_n 0) 1), (9, (.getfield 15, 3, 8, 1, 1, 0)), (12, e0 (.iload_n 1) 1), (13, e0 (.aload_n 0) 1), (14, (.getfield 9, 3, 8, 0, 1, 0))],
  [(17, e0 (.iload_n 1) 1), (18, e0 .iaload 1), (19, e0 .iastore 1), (20, e0 (.iinc 1 1) 3), (23, e0 (.goto (-21)) 3), (26, e0 (.aload_n 0) 1), (27, e0 (.iconst 1) 1), (28, (.putfield 316, 3, 8, 2, 0, 1)), (31, e0 (.aload_n 0) 1)],
  [(32, (.getfield 9, 3, 8, 0, 1, 0)), (35, e0 (.iconst 0) 1), (36, e0 .iaload 1), (37, (.ireturn, 1, 1, 0, 0, 0))]]
theorem ok_207 : okT 207 pT_207 = true := by decide +kernel
def pT_208 : MT := [[(0, e0 (.aload_n 0) 1), (1, (.getfield 316, 3, 8, 2, 0, 0)), (4, e0 (.ifCond .ne 6) 3), (7, e0 (.bipush (-3)) 2), (9, (.ireturn, 1, 1, 0, 0, 0)), (10, e0 (.iconst 0) 1), (11, e0 (.istore_n 1) 1), (12, e0 (.iload_n 1) 1), (13, e0 (.bipush 74) 2), (15, e0 (.if_icmp .ge 21) 3)],
  [(18, e0 (.aload_n 0) 1), (19, (.getfield 9, 3, 8, 0, 1, 0)), (22, e0 (.iload_n 1) 1), (23, e0 (.aload_n 0) 1), (24, (.getfield 15, 3, 8, 1, 1, 0)), (27, e0 (.iload_n 1) 1), (28, e0 .iaload 1), (29, e0 .iastore 1), (30, e0 (.iinc 1 1) 3)],
  [(33, e0 (.goto (-21)) 3), (36, e0 (.aload_n 0) 1), (37, (.getfield 9, 3, 8, 0, 1, 0)), (40, e0 (.iconst 0) 1), (41, e0 .iaload 1), (42, (.ireturn, 1, 1, 0, 0, 0))]]
theorem ok_208 : okT 208 pT_208 = true := by decide +kernel
def pT_209 : MT := [[(0, e0 (.iload_n 1) 1), (1, e0 (.tableswitch 74 0 5 #[39, 46, 54, 59, 64, 69]) 39)],
  [],
  [(40, e0 (.aload_n 0) 1), (41, (.getfield 9, 3, 8, 0, 1, 0)), (44, e0 (.iconst 0) 1), (45, e0 .iaload 1), (46, (.ireturn, 1, 1, 0, 0, 0)), (47, e0 (.aload_n 0) 1)],
  [(48, (.invokevirtual 75, 3, 1, 128, 1, 24)), (51, (.invokestatic 214, 3, 1, 165, 1, 56)), (54, (.ireturn, 1, 1, 0, 0, 0)), (55, e0 (.aload_n 0) 1), (56, (.getfield 255, 3, 8, 22, 0, 0)), (59, (.ireturn, 1, 1, 0, 0, 0)), (60, e0 (.aload_n 0) 1), (61, (.invokevirtual 320, 3, 1, 210, 1, 56))],
  [(64, (.ireturn, 1, 1, 0, 0, 0)), (65, e0 (.aload_n 0) 1), (66, (.invokevirtual 323, 3, 1, 211, 1, 56)), (69, (.ireturn, 1, 1, 0, 0, 0)), (70, e0 (.aload_n 0) 1), (71, (.invokevirtual 326, 3, 1, 212, 1, 56)), (74, (.ireturn, 1, 1, 0, 0, 0)), (75, e0 (.bipush (-2)) 2), (77, (.ireturn, 1, 1, 0, 0, 0))]]
theorem ok_209 : okT 209 pT_209 = true := by decide +kernel
def pT_210 : MT := [[(0, e0 (.iconst 0) 1), (1, e0 (.istore_n 1) 1), (2, e0 (.iconst 0) 1), (3, e0 (.istore_n 2) 1), (4, e0 (.iload_n 2) 1), (5, e0 (.aload_n 0) 1), (6, (.getfield 9, 3, 8, 0, 1, 0)), (9, e0 (.iconst 0) 1), (10, e0 .iaload 1), (11, e0 (.if_icmp .ge 36) 3), (14, e0 (.iload_n 1) 1), (15, e0 (.aload_n 0) 1)],
  [(16, (.invokevirtual 75, 3, 1, 128, 1, 24)), (19, e0 (.iload_n 2) 1), (20, (.invokestatic 79, 3, 1, 129, 2, 40)), (23, e0 (.ifCond .eq 15) 3), (26, e0 (.aload_n 0) 1), (27, (.getfield 9, 3, 8, 0, 1, 0)), (30, e0 (.bipush 66) 2)],
  [(32, e0 (.iload_n 2) 1), (33, e0 .iadd 1), (34, e0 .iaload 1), (35, e0 (.goto 4) 3), (38, e0 (.iconst 0) 1), (39, e0 .iadd 1), (40, e0 (.istore_n 1) 1), (41, e0 (.iinc 2 1) 3), (44, e0 (.goto (-40)) 3), (47, e0 (.iload_n 1) 1)],
  [(48, (.ireturn, 1, 1, 0, 0, 0))]]
theorem ok_210 : okT 210 pT_210 = true := by decide +kernel
def pT_211 : MT := [[(0, e0 (.iconst 0) 1), (1, e0 (.istore_n 1) 1), (2, e0 (.iconst 0) 1), (3, e0 (.istore_n 2) 1), (4, e0 (.iload_n 2) 1), (5, e0 (.aload_n 0) 1), (6, (.getfield 9, 3, 8, 0, 1, 0)), (9, e0 (.iconst 0) 1), (10, e0 .iaload 1), (11, e0 (.if_icmp .ge 35) 3), (14, e0 (.iload_n 1) 1), (15, e0 (.aload_n 0) 1)],
  [(16, (.invokevirtual 75, 3, 1, 128, 1, 24)), (19, e0 (.iload_n 2) 1), (20, (.invokestatic 79, 3, 1, 129, 2, 40)), (23, e0 (.ifCond .eq 14) 3), (26, e0 (.aload_n 0) 1), (27, e0 (.iload_n 2) 1), (28, (.invokevirtual 217, 3, 1, 167, 2, 72)), (31, (.invokestatic 214, 3, 1, 165, 1, 56))],
  [(34, e0 (.goto 4) 3), (37, e0 (.iconst 0) 1), (38, e0 .iadd 1), (39, e0 (.istore_n 1) 1), (40, e0 (.iinc 2 1) 3), (43, e0 (.goto (-39)) 3), (46, e0 (.iload_n 1) 1), (47, (.ireturn, 1, 1, 0, 0, 0))]]
theorem ok_211 : okT 211 pT_211 = true := by decide +kernel
def pT_212 : MT := [[(0, e0 (.aload_n 0) 1), (1, e0 (.aload_n 0) 1), (2, (.invokevirtual 75, 3, 1, 128, 1, 24)), (5, (.invokevirtual 156, 3, 1, 152, 2, 72)), (8, e0 (.iconst 0) 1), (9, e0 (.istore_n 1) 1), (10, e0 (.iconst 0) 1), (11, e0 (.istore_n 2) 1), (12, e0 (.iload_n 2) 1), (13, e0 (.aload_n 0) 1), (14, (.getfield 9, 3, 8, 0, 1, 0))],
  [(17, e0 (.iconst 0) 1), (18, e0 .iaload 1), (19, e0 (.if_icmp .ge 55) 3), (22, e0 (.iload_n 1) 1), (23, e0 (.aload_n 0) 1), (24, (.invokevirtual 75, 3, 1, 128, 1, 24)), (27, e0 (.iload_n 2) 1), (28, (.invokestatic 79, 3, 1, 129, 2, 40)), (31, e0 (.ifCond .eq 34) 3)],
  [(34, e0 (.aload_n 0) 1), (35, (.getfield 9, 3, 8, 0, 1, 0)), (38, e0 (.bipush 34) 2), (40, e0 (.iload_n 2) 1), (41, e0 .iadd 1), (42, e0 .iaload 1), (43, e0 (.ifCond .ne 22) 3), (46, e0 (.aload_n 0) 1), (47, (.getfield 9, 3, 8, 0, 1, 0))],
  [(50, e0 (.bipush 66) 2), (52, e0 (.iload_n 2) 1), (53, e0 .iadd 1), (54, e0 .iaload 1), (55, e0 (.aload_n 0) 1), (56, (.getfield 18, 3, 8, 3, 1, 0)), (59, e0 (.iload_n 2) 1), (60, e0 .iaload 1), (61, e0 .iadd 1), (62, e0 (.goto 4) 3)],
  [(65, e0 (.iconst 0) 1), (66, e0 .iadd 1), (67, e0 (.istore_n 1) 1), (68, e0 (.iinc 2 1) 3), (71, e0 (.goto (-59)) 3), (74, e0 (.iload_n 1) 1), (75, (.ireturn, 1, 1, 0, 0, 0))]]
theorem ok_212 : okT 212 pT_212 = true := by decide +kernel
def pT_213 : MT := [[(0, e0 (.iload_n 1) 1), (1, (.invokestatic 308, 3, 1, 203, 1, 24)), (4, e0 (.ifCond .eq 22) 3), (7, e0 (.iload_n 2) 1), (8, e0 (.iconst (-1)) 1), (9, e0 (.iconst 1) 1), (10, (.invokestatic 67, 3, 1, 125, 3, 56)), (13, e0 (.ifCond .eq 13) 3)],
  [(16, e0 (.iload_n 2) 1), (17, e0 (.ifCond .lt 12) 3), (20, e0 (.iload_n 3) 1), (21, e0 (.bipush 40) 2), (23, e0 (.if_icmp .le 6) 3), (26, e0 (.bipush (-2)) 2), (28, (.ireturn, 1, 1, 0, 0, 0)), (29, e0 (.iload_n 2) 1), (30, e0 (.ifCond .lt 10) 3)],
  [(33, e0 (.iload_n 3) 1), (34, e0 (.ifCond .ge 6) 3), (37, e0 (.bipush (-14)) 2), (39, (.ireturn, 1, 1, 0, 0, 0)), (40, e0 (.aload_n 0) 1), (41, (.getfield 55, 3, 8, 26, 1, 0)), (44, e0 (.iload_n 1) 1), (45, e0 (.iload_n 2) 1), (46, e0 .iastore 1), (47, e0 (.aload_n 0) 1)],
  [(48, (.getfield 58, 3, 8, 27, 1, 0)), (51, e0 (.iload_n 1) 1), (52, e0 (.iload_n 2) 1), (53, e0 (.ifCond .ge 7) 3), (56, e0 (.iconst 0) 1), (57, e0 (.goto 4) 3), (60, e0 (.iload_n 3) 1), (61, e0 .iastore 1), (62, e0 (.iconst 0) 1), (63, e0 (.istore 4) 2)],
  [(65, e0 (.iload 4) 2), (67, e0 (.bipush 40) 2), (69, e0 (.if_icmp .ge 22) 3), (72, e0 (.aload_n 0) 1), (73, (.getfield 61, 3, 8, 28, 1, 0)), (76, e0 (.bipush 40) 2), (78, e0 (.iload_n 1) 1), (79, e0 .imul 1)],
  [(80, e0 (.iload 4) 2), (82, e0 .iadd 1), (83, e0 (.iconst 0) 1), (84, e0 .iastore 1), (85, e0 (.iinc 4 1) 3), (88, e0 (.goto (-23)) 3), (91, e0 (.iconst 1) 1), (92, (.ireturn, 1, 1, 0, 0, 0))]]
theorem ok_213 : okT 213 pT_213 = true := by decide +kernel
def pT_214 : MT := [[(0, e0 (.iload_n 1) 1), (1, (.invokestatic 308, 3, 1, 203, 1, 24)), (4, e0 (.ifCond .ne 6) 3), (7, e0 (.bipush (-2)) 2), (9, (.ireturn, 1, 1, 0, 0, 0)), (10, e0 (.aload_n 0) 1), (11, (.getfield 55, 3, 8, 26, 1, 0)), (14, e0 (.iload_n 1) 1), (15, e0 .iaload 1)],
  [(16, e0 (.ifCond .ge 6) 3), (19, e0 (.bipush (-11)) 2), (21, (.ireturn, 1, 1, 0, 0, 0)), (22, e0 (.iload_n 2) 1), (23, e0 (.iconst 0) 1), (24, e0 (.aload_n 0) 1), (25, (.getfield 58, 3, 8, 27, 1, 0)), (28, e0 (.iload_n 1) 1), (29, e0 .iaload 1), (30, e0 (.iconst 1) 1), (31, e0 .isub 1)],
  [(32, (.invokestatic 67, 3, 1, 125, 3, 56)), (35, e0 (.ifCond .ne 6) 3), (38, e0 (.bipush (-12)) 2), (40, (.ireturn, 1, 1, 0, 0, 0)), (41, e0 (.aload_n 0) 1), (42, (.getfield 61, 3, 8, 28, 1, 0)), (45, e0 (.bipush 40) 2), (47, e0 (.iload_n 1) 1)],
  [(48, e0 .imul 1), (49, e0 (.iload_n 2) 1), (50, e0 .iadd 1), (51, e0 (.aload_n 0) 1), (52, (.getfield 55, 3, 8, 26, 1, 0)), (55, e0 (.iload_n 1) 1), (56, e0 .iaload 1), (57, e0 (.ifCond .ne 8) 3), (60, e0 (.iload_n 3) 1), (61, e0 .i2b 1), (62, e0 (.goto 4) 3)],
  [(65, e0 (.iload_n 3) 1), (66, e0 .iastore 1), (67, e0 (.iconst 1) 1), (68, (.ireturn, 1, 1, 0, 0, 0))]]
theorem ok_214 : okT 214 pT_214 = true := by decide +kernel
def pT_215 : MT := [[(0, e0 (.iload_n 1) 1), (1, (.invokestatic 308, 3, 1, 203, 1, 24)), (4, e0 (.ifCond .eq 10) 3), (7, e0 (.iload_n 3) 1), (8, (.invokestatic 308, 3, 1, 203, 1, 24)), (11, e0 (.ifCond .ne 6) 3), (14, e0 (.bipush (-2)) 2)],
  [(16, (.ireturn, 1, 1, 0, 0, 0)), (17, e0 (.aload_n 0) 1), (18, (.getfield 55, 3, 8, 26, 1, 0)), (21, e0 (.iload_n 1) 1), (22, e0 .iaload 1), (23, e0 (.ifCond .lt 12) 3), (26, e0 (.aload_n 0) 1), (27, (.getfield 55, 3, 8, 26, 1, 0)), (30, e0 (.iload_n 3) 1), (31, e0 .iaload 1)],
  [(32, e0 (.ifCond .ge 6) 3), (35, e0 (.bipush (-11)) 2), (37, (.ireturn, 1, 1, 0, 0, 0)), (38, e0 (.aload_n 0) 1), (39, (.getfield 55, 3, 8, 26, 1, 0)), (42, e0 (.iload_n 1) 1), (43, e0 .iaload 1), (44, e0 (.aload_n 0) 1), (45, (.getfield 55, 3, 8, 26, 1, 0))],
  [(48, e0 (.iload_n 3) 1), (49, e0 .iaload 1), (50, e0 (.if_icmp .eq 6) 3), (53, e0 (.bipush (-13)) 2), (55, (.ireturn, 1, 1, 0, 0, 0)), (56, e0 (.iload 5) 2), (58, e0 (.ifCond .lt 39) 3), (61, e0 (.iload_n 2) 1), (62, e0 (.ifCond .lt 35) 3)],
  [(65, e0 (.iload 4) 2), (67, e0 (.ifCond .lt 30) 3), (70, e0 (.iload 5) 2), (72, e0 (.aload_n 0) 1), (73, (.getfield 58, 3, 8, 27, 1, 0)), (76, e0 (.iload_n 1) 1), (77, e0 .iaload 1), (78, e0 (.iload_n 2) 1), (79, e0 .isub 1)],
  [(80, e0 (.if_icmp .gt 17) 3), (83, e0 (.iload 5) 2), (85, e0 (.aload_n 0) 1), (86, (.getfield 58, 3, 8, 27, 1, 0)), (89, e0 (.iload_n 3) 1), (90, e0 .iaload 1), (91, e0 (.iload 4) 2), (93, e0 .isub 1), (94, e0 (.if_icmp .le 6) 3)],
  [(97, e0 (.bipush (-12)) 2), (99, (.ireturn, 1, 1, 0, 0, 0)), (100, e0 (.iconst 0) 1), (101, e0 (.istore 6) 2), (103, e0 (.iload 6) 2), (105, e0 (.iload 5) 2), (107, e0 (.if_icmp .ge 30) 3), (110, e0 (.aload_n 0) 1), (111, (.getfield 64, 3, 8, 31, 1, 0))],
  [(114, e0 (.iload 6) 2), (116, e0 (.aload_n 0) 1), (117, (.getfield 61, 3, 8, 28, 1, 0)), (120, e0 (.bipush 40) 2), (122, e0 (.iload_n 1) 1), (123, e0 .imul 1), (124, e0 (.iload_n 2) 1), (125, e0 .iadd 1), (126, e0 (.iload 6) 2)],
  [(128, e0 .iadd 1), (129, e0 .iaload 1), (130, e0 .iastore 1), (131, e0 (.iinc 6 1) 3), (134, e0 (.goto (-31)) 3), (137, e0 (.iconst 0) 1), (138, e0 (.istore 6) 2), (140, e0 (.iload 6) 2), (142, e0 (.iload 5) 2)],
  [(144, e0 (.if_icmp .ge 31) 3), (147, e0 (.aload_n 0) 1), (148, (.getfield 61, 3, 8, 28, 1, 0)), (151, e0 (.bipush 40) 2), (153, e0 (.iload_n 3) 1), (154, e0 .imul 1), (155, e0 (.iload 4) 2), (157, e0 .iadd 1), (158, e0 (.iload 6) 2)],
  [(160, e0 .iadd 1), (161, e0 (.aload_n 0) 1), (162, (.getfield 64, 3, 8, 31, 1, 0)), (165, e0 (.iload 6) 2), (167, e0 .iaload 1), (168, e0 .iastore 1), (169, e0 (.iinc 6 1) 3), (172, e0 (.goto (-32)) 3), (175, e0 (.iload 5) 2)],
  [(177, (.ireturn, 1, 1, 0, 0, 0))]]
theorem ok_215 : okT 215 pT_215 = true := by decide +kernel
def pT_216 : MT := [[(0, e0 (.iconst 0) 1), (1, e0 (.istore_n 2) 1), (2, e0 (.aload_n 0) 1), (3, e0 .arraylength 1), (4, e0 (.istore_n 3) 1), (5, e0 (.iload_n 2) 1), (6, e0 (.iload_n 3) 1), (7, e0 (.if_icmp .ge 13) 3), (10, e0 (.aload_n 0) 1), (11, e0 (.iload_n 2) 1), (12, e0 (.iload_n 1) 1), (13, e0 .iastore 1), (14, e0 (.iinc 2 1) 3)],
  [(17, e0 (.goto (-12)) 3), (20, e0 .return_ 1)]]
theorem ok_216 : okT 216 pT_216 = true := by decide +kernel
def pT_217 : MT := [[(0, e0 (.iload_n 0) 1), (1, e0 (.iload_n 0) 1), (2, e0 (.iconst 1) 1), (3, e0 .iushr 1), (4, (.ldc_w 265, 3, 1, 1431655765, 0, 0)), (7, e0 .iand 1), (8, e0 .isub 1), (9, e0 (.istore_n 0) 1), (10, e0 (.iload_n 0) 1), (11, (.ldc_w 266, 3, 1, 858993459, 0, 0)), (14, e0 .iand 1), (15, e0 (.iload_n 0) 1)],
  [(16, e0 (.iconst 2) 1), (17, e0 .iushr 1), (18, (.ldc_w 266, 3, 1, 858993459, 0, 0)), (21, e0 .iand 1), (22, e0 .iadd 1), (23, e0 (.istore_n 0) 1), (24, e0 (.iload_n 0) 1), (25, e0 (.iload_n 0) 1), (26, e0 (.iconst 4) 1), (27, e0 .iushr 1), (28, e0 .iadd 1), (29, (.ldc_w 267, 3, 1, 252645135, 0, 0))],
  [(32, e0 .iand 1), (33, e0 (.istore_n 0) 1), (34, e0 (.iload_n 0) 1), (35, e0 (.iload_n 0) 1), (36, e0 (.bipush 8) 2), (38, e0 .iushr 1), (39, e0 .iadd 1), (40, e0 (.istore_n 0) 1), (41, e0 (.iload_n 0) 1), (42, e0 (.iload_n 0) 1), (43, e0 (.bipush 16) 2), (45, e0 .iushr 1), (46, e0 .iadd 1), (47, e0 (.istore_n 0) 1)],
  [(48, e0 (.iload_n 0) 1), (49, e0 (.bipush 63) 2), (51, e0 .iand 1), (52, (.ireturn, 1, 1, 0, 0, 0))]]
theorem ok_217 : okT 217 pT_217 = true := by decide +kernel
def pT_218 : MT := [[(0, e0 (.aload_n 0) 1), (4, e0 .arraylength 1), (5, e0 (.aload_n 0) 1), (6, (.invokevirtual 335, 3, 1, 219, 1, 28)), (9, e0 .ishr 1), (10, (.ireturn, 1, 1, 0, 0, 0))]]
theorem ok_218 : okT 218 pT_218 = true := by decide +kernel
def pT_219 : MT := [[(0, e0 (.getstatic 38) 3), (3, e0 (.ifCond .eq 10) 3), (6, e0 (.aload_n 0) 1), (10, e0 (.goto 4) 3), (13, e0 (.iconst 1) 1), (14, (.ireturn, 1, 9, 0, 0, 0))]]
theorem ok_219 : okT 219 pT_219 = true := by decide +kernel
def pT_220 : MT := [[(0, e0 (.aload_n 0) 1), (1, (.invokevirtual 492, 3, 1, 221, 1, 28)), (4, e0 (.ifCond .eq 12) 3), (7, e0 (.aload_n 0) 1), (11, e0 (.iload_n 1) 1), (12, (.invokestatic 495, 3, 1, 222, 2, 45)), (15, (.ireturn, 1, 9, 0, 0, 0))],
  [(16, e0 (.aload_n 0) 1), (20, e0 (.iload_n 1) 1), (24, (.ireturn, 1, 9, 0, 0, 0))]]
theorem ok_220 : okT 220 pT_220 = true := by decide +kernel
def pT_221 : MT := [[(0, e0 (.getstatic 38) 3), (3, e0 (.ifCond .eq 14) 3), (6, e0 (.aload_n 0) 1), (10, e0 (.ifCond .ne 7) 3), (13, e0 (.iconst 1) 1), (14, e0 (.goto 4) 3)],
  [(17, e0 (.iconst 0) 1), (18, (.ireturn, 1, 2, 0, 0, 0))]]
theorem ok_221 : okT 221 pT_221 = true := by decide +kernel
def pT_222 : MT := [[(0, e0 (.iload_n 1) 1), (1, e0 (.aload_n 0) 1), (2, e0 .arraylength 1), (3, (.invokestatic 9, 3, 2, 3, 0, 0)), (6, e0 (.aload_n 0) 1), (7, e0 (.iload_n 1) 1), (8, e0 .baload 1), (9, e0 (.sipush 255) 3), (12, e0 .iand 1), (13, e0 .i2c 1), (14, (.ireturn, 1, 9, 0, 0, 0))]]
theorem ok_222 : okT 222 pT_222 = true := by decide +kernel
