/-! ===== more instructions ===== -/
def pT_27 : MT := [[(0, e0 (.bipush 20) 2), (2, e0 (.aload_n 0) 1), (3, (.getfield 21, 3, 1, 3, 0, 0)), (6, e0 .imul 1), (7, e0 (.bipush 10) 2), (9, e0 (.aload_n 0) 1), (10, (.getfield 30, 3, 1, 6, 0, 0)), (13, e0 .imul 1), (14, e0 .iadd 1), (15, e0 (.istore_n 1) 1)],
  [(16, e0 (.aload_n 0) 1), (17, (.getfield 9, 3, 1, 0, 0, 0)), (20, e0 (.iconst 4) 1), (21, e0 (.if_icmp .ne 17) 3), (24, e0 (.iload_n 1) 1), (25, e0 (.aload_n 0) 1), (26, (.getfield 15, 3, 1, 1, 0, 0)), (29, e0 (.aload_n 0) 1), (30, (.getfield 30, 3, 1, 6, 0, 0))],
  [(33, e0 .imul 1), (34, e0 .iadd 1), (35, e0 (.goto 4) 3), (38, e0 (.iload_n 1) 1), (39, (.ireturn, 1, 1, 0, 0, 0))]]
theorem ok_27 : okT 27 pT_27 = true := by decide +kernel
def pT_28 : MT := [[(0, e0 (.aload_n 0) 1), (1, (.getfield 24, 3, 1, 4, 0, 0)), (4, e0 (.ifCond .ne 7) 3), (7, e0 (.iconst 1) 1), (8, e0 (.goto 4) 3), (11, e0 (.iconst 0) 1), (12, (.ireturn, 1, 2, 0, 0, 0))]]
theorem ok_28 : okT 28 pT_28 = true := by decide +kernel
def pT_29 : MT := [[(0, e0 (.aload_n 0) 1), (1, (.invokevirtual 56, 3, 1, 28, 1, 17)), (4, e0 (.ifCond .eq 15) 3), (7, e0 (.aload_n 0) 1), (8, (.getfield 27, 3, 1, 5, 0, 0)), (11, e0 (.aload_n 0) 1), (12, (.getfield 30, 3, 1, 6, 0, 0)), (15, e0 .imul 1)],
  [(16, e0 (.goto 4) 3), (19, e0 (.iconst 0) 1), (20, (.ireturn, 1, 1, 0, 0, 0))]]
theorem ok_29 : okT 29 pT_29 = true := by decide +kernel
def pT_30 : MT := [[(0, e0 (.aload_n 0) 1), (1, e0 (.aload_n 1) 1), (2, (.getfield 9, 3, 1, 0, 0, 0)), (5, (.putfield 9, 3, 1, 0, 0, 0)), (8, e0 (.aload_n 0) 1), (9, e0 (.aload_n 1) 1), (10, (.getfield 15, 3, 1, 1, 0, 0)), (13, (.putfield 15, 3, 1, 1, 0, 0))],
  [(16, e0 (.aload_n 0) 1), (17, e0 (.aload_n 1) 1), (18, (.getfield 18, 3, 1, 2, 0, 0)), (21, (.putfield 18, 3, 1, 2, 0, 0)), (24, e0 (.aload_n 0) 1), (25, e0 (.aload_n 1) 1), (26, (.getfield 21, 3, 1, 3, 0, 0)), (29, (.putfield 21, 3, 1, 3, 0, 0))],
  [(32, e0 (.aload_n 0) 1), (33, e0 (.aload_n 1) 1), (34, (.getfield 24, 3, 1, 4, 0, 0)), (37, (.putfield 24, 3, 1, 4, 0, 0)), (40, e0 (.aload_n 0) 1), (41, e0 (.aload_n 1) 1), (42, (.getfield 27, 3, 1, 5, 0, 0)), (45, (.putfield 27, 3, 1, 5, 0, 0))],
  [(48, e0 (.aload_n 0) 1), (49, e0 (.aload_n 1) 1), (50, (.getfield 30, 3, 1, 6, 0, 0)), (53, (.putfield 30, 3, 1, 6, 0, 0)), (56, e0 (.aload_n 0) 1), (57, e0 (.aload_n 1) 1), (58, (.getfield 33, 3, 1, 7, 0, 0)), (61, (.putfield 33, 3, 1, 7, 0, 0))],
  [(64, e0 (.aload_n 0) 1), (65, e0 (.aload_n 1) 1), (66, (.getfield 36, 3, 1, 8, 0, 0)), (69, (.putfield 36, 3, 1, 8, 0, 0)), (72, e0 .return_ 1)]]
theorem ok_30 : okT 30 pT_30 = true := by decide +kernel
def pT_31 : MT := [[(0, e0 (.aload_n 0) 1), (1, (.invokespecial 3, 3, 2, 1, 0, 0)), (4, e0 (.aload_n 0) 1), (5, e0 (.new 9) 3), (8, e0 .dup 1), (9, (.invokespecial 11, 3, 1, 0, 1, 32)), (12, (.putfield 12, 3, 2, 0, 1, 0)), (15, e0 (.aload_n 0) 1)],
  [(16, e0 (.sipush 128) 3), (19, e0 (.newarray .int) 2), (21, (.putfield 18, 3, 2, 1, 1, 0)), (24, e0 (.aload_n 0) 1), (25, e0 (.sipush 128) 3), (28, e0 (.newarray .int) 2), (30, (.putfield 22, 3, 2, 2, 1, 0))],
  [(33, e0 (.aload_n 0) 1), (34, e0 (.sipush 128) 3), (37, e0 (.newarray .int) 2), (39, (.putfield 25, 3, 2, 3, 1, 0)), (42, e0 (.aload_n 0) 1), (43, e0 (.bipush 7) 2), (45, e0 (.newarray .int) 2), (47, (.putfield 28, 3, 2, 4, 1, 0))],
  [(50, e0 .return_ 1)]]
theorem ok_31 : okT 31 pT_31 = true := by decide +kernel
def pT_32 : MT := [[(0, e0 (.aload_n 0) 1), (1, (.getfield 18, 3, 2, 1, 1, 0)), (4, e0 (.iconst (-1)) 1), (5, (.invokestatic 31, 3, 1, 216, 2, 73)), (8, e0 .return_ 1)]]
theorem ok_32 : okT 32 pT_32 = true := by decide +kernel
def pT_33 : MT := [[(0, e0 (.iconst 0) 1), (1, e0 (.istore_n 3) 1), (2, e0 (.iconst 0) 1), (3, e0 (.istore 4) 2), (5, e0 (.iload 4) 2), (7, e0 (.bipush 7) 2), (9, e0 (.if_icmp .ge 105) 3), (12, e0 (.iload_n 2) 1), (13, e0 (.iconst 1) 1), (14, e0 (.iload 4) 2)],
  [(16, e0 .ishl 1), (17, e0 (.iconst (-1)) 1), (18, e0 .ixor 1), (19, e0 .iand 1), (20, e0 (.istore 5) 2), (22, e0 (.iload 4) 2), (24, e0 (.iload_n 2) 1), (25, (.invokestatic 37, 3, 1, 75, 2, 39)), (28, e0 (.ifCond .eq 80) 3), (31, e0 (.aload_n 1) 1)],
  [(32, e0 (.iload 4) 2), (34, e0 (.iload_n 2) 1), (35, (.invokevirtual 41, 3, 1, 43, 3, 83)), (38, e0 (.ifCond .ne 70) 3), (41, e0 (.aload_n 1) 1), (42, e0 (.iload 4) 2), (44, e0 (.iload_n 2) 1), (45, (.invokevirtual 47, 3, 1, 44, 3, 131))],
  [(48, e0 (.ifCond .eq 6) 3), (51, e0 (.goto 57) 3), (54, e0 (.aload_n 0) 1), (55, (.getfield 18, 3, 2, 1, 1, 0)), (58, e0 (.iload 5) 2), (60, e0 .iaload 1), (61, e0 (.iconst (-1)) 1), (62, e0 (.if_icmp .ne 29) 3)],
  [(65, e0 (.aload_n 0) 1), (66, (.getfield 12, 3, 2, 0, 1, 0)), (69, e0 (.aload_n 1) 1), (70, e0 (.iload 5) 2), (72, (.invokevirtual 50, 3, 1, 1, 3, 80)), (75, e0 (.aload_n 0) 1), (76, (.getfield 18, 3, 2, 1, 1, 0)), (79, e0 (.iload 5) 2)],
  [(81, e0 (.aload_n 0) 1), (82, (.getfield 12, 3, 2, 0, 1, 0)), (85, e0 (.iconst 0) 1), (86, e0 (.iconst 0) 1), (87, (.invokevirtual 54, 3, 1, 6, 3, 80)), (90, e0 .iastore 1), (91, e0 (.aload_n 0) 1), (92, (.getfield 18, 3, 2, 1, 1, 0)), (95, e0 (.iload 5) 2)],
  [(97, e0 .iaload 1), (98, e0 (.ifCond .ne 10) 3), (101, e0 (.iload_n 3) 1), (102, e0 (.iconst 1) 1), (103, e0 (.iload 4) 2), (105, e0 .ishl 1), (106, e0 .ior 1), (107, e0 (.istore_n 3) 1), (108, e0 (.iinc 4 1) 3), (111, e0 (.goto (-106)) 3)],
  [(114, e0 (.iload_n 3) 1), (115, (.ireturn, 1, 1, 0, 0, 0))]]
theorem ok_33 : okT 33 pT_33 = true := by decide +kernel
def pT_34 : MT := [[(0, e0 (.aload_n 0) 1), (1, (.invokevirtual 56, 3, 1, 32, 1, 18)), (4, e0 (.aload_n 0) 1), (5, e0 (.aload_n 1) 1), (6, (.invokevirtual 59, 3, 1, 35, 2, 66)), (9, e0 (.aload_n 0) 1), (10, (.getfield 25, 3, 2, 3, 1, 0)), (13, e0 (.iconst 0) 1), (14, e0 (.iconst 1) 1), (15, e0 .iastore 1)],
  [(16, e0 (.iconst 1) 1), (17, e0 (.istore_n 2) 1), (18, e0 (.iload_n 2) 1), (19, e0 (.aload_n 1) 1), (20, (.getfield 63, 3, 3, 3, 0, 0)), (23, e0 (.if_icmp .gt 74) 3), (26, e0 (.aload_n 0) 1), (27, (.getfield 25, 3, 2, 3, 1, 0)), (30, e0 (.iload_n 2) 1), (31, e0 (.iconst 0) 1)],
  [(32, e0 .iastore 1), (33, e0 (.iconst 0) 1), (34, e0 (.istore_n 3) 1), (35, e0 (.iload_n 3) 1), (36, e0 (.bipush 7) 2), (38, e0 (.if_icmp .ge 53) 3), (41, e0 (.aload_n 0) 1), (42, (.getfield 22, 3, 2, 2, 1, 0)), (45, e0 (.iload_n 2) 1), (46, e0 .iaload 1), (47, e0 (.iconst (-1)) 1)],
  [(48, e0 (.if_icmp .eq 43) 3), (51, e0 (.iload_n 3) 1), (52, e0 (.aload_n 0) 1), (53, (.getfield 22, 3, 2, 2, 1, 0)), (56, e0 (.iload_n 2) 1), (57, e0 .iaload 1), (58, (.invokestatic 37, 3, 1, 75, 2, 39)), (61, e0 (.ifCond .eq 24) 3)],
  [(64, e0 (.aload_n 0) 1), (65, (.getfield 25, 3, 2, 3, 1, 0)), (68, e0 (.iload_n 2) 1), (69, e0 .dup2 1), (70, e0 .iaload 1), (71, e0 (.aload_n 0) 1), (72, (.getfield 25, 3, 2, 3, 1, 0)), (75, e0 (.iload_n 2) 1), (76, e0 (.iconst 1) 1), (77, e0 (.iload_n 3) 1), (78, e0 .ishl 1), (79, e0 (.iconst (-1)) 1)],
  [(80, e0 .ixor 1), (81, e0 .iand 1), (82, e0 .iaload 1), (83, e0 .iadd 1), (84, e0 .iastore 1), (85, e0 (.iinc 3 1) 3), (88, e0 (.goto (-53)) 3), (91, e0 (.iinc 2 1) 3), (94, e0 (.goto (-76)) 3)],
  [(97, e0 (.aload_n 0) 1), (98, e0 (.aload_n 1) 1), (99, (.getfield 63, 3, 3, 3, 0, 0)), (102, (.invokevirtual 67, 3, 1, 36, 2, 82)), (105, e0 (.aload_n 0) 1), (106, (.getfield 25, 3, 2, 3, 1, 0)), (109, e0 (.aload_n 1) 1), (110, (.getfield 63, 3, 3, 3, 0, 0))],
  [(113, e0 .iaload 1), (114, (.ireturn, 1, 1, 0, 0, 0))]]
theorem ok_34 : okT 34 pT_34 = true := by decide +kernel
def pT_35 : MT := [[(0, e0 (.aload_n 0) 1), (1, (.getfield 22, 3, 2, 2, 1, 0)), (4, e0 (.iconst (-1)) 1), (5, (.invokestatic 31, 3, 1, 216, 2, 73)), (8, e0 (.aload_n 0) 1), (9, (.getfield 22, 3, 2, 2, 1, 0)), (12, e0 (.aload_n 1) 1), (13, (.getfield 63, 3, 3, 3, 0, 0))],
  [(16, e0 (.iconst 0) 1), (17, e0 .iastore 1), (18, e0 (.aload_n 1) 1), (19, (.getfield 63, 3, 3, 3, 0, 0)), (22, e0 (.istore_n 2) 1), (23, e0 (.iload_n 2) 1), (24, e0 (.ifCond .le 74) 3), (27, e0 (.aload_n 0) 1), (28, (.getfield 22, 3, 2, 2, 1, 0)), (31, e0 (.iload_n 2) 1)],
  [(32, e0 .iaload 1), (33, e0 (.iconst (-1)) 1), (34, e0 (.if_icmp .ne 6) 3), (37, e0 (.goto 55) 3), (40, e0 (.aload_n 0) 1), (41, (.getfield 22, 3, 2, 2, 1, 0)), (44, e0 (.iload_n 2) 1), (45, e0 (.aload_n 0) 1), (46, e0 (.aload_n 1) 1), (47, e0 (.iload_n 2) 1)],
  [(48, (.invokevirtual 71, 3, 1, 33, 3, 98)), (51, e0 .iastore 1), (52, e0 (.iconst 0) 1), (53, e0 (.istore_n 3) 1), (54, e0 (.iload_n 3) 1), (55, e0 (.bipush 7) 2), (57, e0 (.if_icmp .ge 35) 3), (60, e0 (.iload_n 3) 1), (61, e0 (.aload_n 0) 1), (62, (.getfield 22, 3, 2, 2, 1, 0))],
  [(65, e0 (.iload_n 2) 1), (66, e0 .iaload 1), (67, (.invokestatic 37, 3, 1, 75, 2, 39)), (70, e0 (.ifCond .eq 16) 3), (73, e0 (.aload_n 0) 1), (74, (.getfield 22, 3, 2, 2, 1, 0)), (77, e0 (.iload_n 2) 1), (78, e0 (.iconst 1) 1), (79, e0 (.iload_n 3) 1)],
  [(80, e0 .ishl 1), (81, e0 (.iconst (-1)) 1), (82, e0 .ixor 1), (83, e0 .iand 1), (84, e0 (.iconst 0) 1), (85, e0 .iastore 1), (86, e0 (.iinc 3 1) 3), (89, e0 (.goto (-35)) 3), (92, e0 (.iinc 2 (-1)) 3), (95, e0 (.goto (-72)) 3)],
  [(98, e0 .return_ 1)]]
theorem ok_35 : okT 35 pT_35 = true := by decide +kernel
def pT_36 : MT := [[(0, e0 (.iload_n 1) 1), (1, e0 (.istore_n 2) 1), (2, e0 (.iconst 0) 1), (3, e0 (.istore_n 3) 1), (4, e0 (.iload_n 3) 1), (5, e0 (.bipush 7) 2), (7, e0 (.if_icmp .ge 91) 3), (10, e0 (.aload_n 0) 1), (11, (.getfield 25, 3, 2, 3, 1, 0)), (14, e0 (.iload_n 2) 1), (15, e0 .iaload 1)],
  [(16, e0 (.ifCond .le 82) 3), (19, e0 (.iconst 0) 1), (20, e0 (.istore 4) 2), (22, e0 (.iload 4) 2), (24, e0 (.bipush 7) 2), (26, e0 (.if_icmp .ge 66) 3), (29, e0 (.iload_n 2) 1), (30, e0 (.ifCond .eq 56) 3)],
  [(33, e0 (.iload 4) 2), (35, e0 (.aload_n 0) 1), (36, (.getfield 22, 3, 2, 2, 1, 0)), (39, e0 (.iload_n 2) 1), (40, e0 .iaload 1), (41, (.invokestatic 37, 3, 1, 75, 2, 39)), (44, e0 (.ifCond .eq 42) 3), (47, e0 (.aload_n 0) 1)],
  [(48, (.getfield 25, 3, 2, 3, 1, 0)), (51, e0 (.iload_n 2) 1), (52, e0 (.iconst 1) 1), (53, e0 (.iload 4) 2), (55, e0 .ishl 1), (56, e0 (.iconst (-1)) 1), (57, e0 .ixor 1), (58, e0 .iand 1), (59, e0 .iaload 1), (60, e0 (.ifCond .ne 6) 3), (63, e0 (.goto 23) 3)],
  [(66, e0 (.aload_n 0) 1), (67, (.getfield 28, 3, 2, 4, 1, 0)), (70, e0 (.iload_n 3) 1), (71, e0 (.iload 4) 2), (73, e0 .iastore 1), (74, e0 (.iload_n 2) 1), (75, e0 (.iconst 1) 1), (76, e0 (.iload 4) 2), (78, e0 .ishl 1), (79, e0 (.iconst (-1)) 1)],
  [(80, e0 .ixor 1), (81, e0 .iand 1), (82, e0 (.istore_n 2) 1), (83, e0 (.goto 9) 3), (86, e0 (.iinc 4 1) 3), (89, e0 (.goto (-67)) 3), (92, e0 (.iinc 3 1) 3), (95, e0 (.goto (-91)) 3)],
  [(98, e0 .return_ 1)]]
theorem ok_36 : okT 36 pT_36 = true := by decide +kernel
def pT_37 : MT := [[(0, e0 (.aload_n 0) 1), (1, (.invokespecial 3, 3, 2, 1, 0, 0)), (4, e0 (.aload_n 0) 1), (5, e0 (.bipush 7) 2), (7, e0 (.anewarray 9) 3), (10, (.putfield 11, 3, 3, 0, 1, 0)), (13, e0 (.aload_n 0) 1), (14, e0 (.bipush 7) 2)],
  [(16, e0 (.bipush 7) 2), (18, e0 (.multianewarray 17 2) 4), (22, (.putfield 19, 3, 3, 1, 1, 0)), (25, e0 (.aload_n 0) 1), (26, e0 (.iconst 0) 1), (27, (.putfield 22, 3, 3, 2, 0, 0)), (30, e0 (.aload_n 0) 1), (31, e0 (.iconst 0) 1)],
  [(32, (.putfield 26, 3, 3, 3, 0, 0)), (35, e0 (.iconst 0) 1), (36, e0 (.istore_n 1) 1), (37, e0 (.iload_n 1) 1), (38, e0 (.aload_n 0) 1), (39, (.getfield 11, 3, 3, 0, 1, 0)), (42, e0 .arraylength 1), (43, e0 (.if_icmp .ge 22) 3), (46, e0 (.aload_n 0) 1), (47, (.getfield 11, 3, 3, 0, 1, 0))],
  [(50, e0 (.iload_n 1) 1), (51, e0 (.new 9) 3), (54, e0 .dup 1), (55, (.invokespecial 29, 3, 1, 13, 1, 17)), (58, e0 .aastore 1), (59, e0 (.iinc 1 1) 3), (62, e0 (.goto (-25)) 3)],
  [(65, e0 .return_ 1)]]
theorem ok_37 : okT 37 pT_37 = true := by decide +kernel
def pT_38 : MT := [[(0, e0 (.iload_n 1) 1), (1, (.invokestatic 48, 3, 1, 71, 1, 23)), (4, e0 (.ifCond .eq 20) 3), (7, e0 (.iload 4) 2), (9, (.invokestatic 51, 3, 1, 72, 1, 23)), (12, e0 (.ifCond .eq 12) 3), (15, e0 (.iload 5) 2)],
  [(17, e0 .i2l 1), (18, (.invokestatic 54, 3, 1, 74, 1, 39)), (21, e0 (.ifCond .ne 6) 3), (24, e0 (.bipush (-2)) 2), (26, (.ireturn, 1, 1, 0, 0, 0)), (27, e0 (.iload 4) 2), (29, e0 (.bipush 100) 2), (31, e0 .idiv 1)],
  [(32, e0 (.istore 6) 2), (34, e0 (.iload 4) 2), (36, e0 (.bipush 10) 2), (38, e0 .idiv 1), (39, e0 (.bipush 10) 2), (41, e0 .irem 1), (42, e0 (.istore 7) 2), (44, e0 (.iload_n 2) 1), (45, e0 (.ifCond .lt 25) 3)],
  [(48, e0 (.iload_n 2) 1), (49, e0 (.bipush 8) 2), (51, e0 (.iload 6) 2), (53, e0 .isub 1), (54, e0 (.if_icmp .gt 16) 3), (57, e0 (.iload_n 3) 1), (58, e0 (.ifCond .lt 12) 3), (61, e0 (.iload_n 3) 1), (62, e0 (.bipush 8) 2)],
  [(64, e0 (.iload 7) 2), (66, e0 .isub 1), (67, e0 (.if_icmp .le 6) 3), (70, e0 (.bipush (-2)) 2), (72, (.ireturn, 1, 1, 0, 0, 0)), (73, e0 (.aload_n 0) 1), (74, (.getfield 22, 3, 3, 2, 0, 0)), (77, e0 (.bipush 7) 2), (79, e0 (.if_icmp .lt 6) 3)],
  [(82, e0 (.bipush (-4)) 2), (84, (.ireturn, 1, 1, 0, 0, 0)), (85, e0 (.aload_n 0) 1), (86, (.getfield 11, 3, 3, 0, 1, 0)), (89, e0 (.aload_n 0) 1), (90, (.getfield 22, 3, 3, 2, 0, 0)), (93, e0 .aaload 1), (94, e0 (.astore 8) 2)],
  [(96, e0 (.aload 8) 2), (98, e0 (.iload_n 1) 1), (99, (.putfield 58, 3, 1, 0, 0, 0)), (102, e0 (.aload 8) 2), (104, e0 (.iconst 0) 1), (105, (.putfield 61, 3, 1, 1, 0, 0)), (108, e0 (.aload 8) 2), (110, e0 (.iload_n 2) 1), (111, (.putfield 64, 3, 1, 2, 0, 0))],
  [(114, e0 (.aload 8) 2), (116, e0 (.iload_n 3) 1), (117, (.putfield 67, 3, 1, 3, 0, 0)), (120, e0 (.aload 8) 2), (122, e0 (.iload 6) 2), (124, (.putfield 70, 3, 1, 5, 0, 0)), (127, e0 (.aload 8) 2)],
  [(129, e0 (.iload 7) 2), (131, (.putfield 73, 3, 1, 6, 0, 0)), (134, e0 (.aload 8) 2), (136, e0 (.iload 4) 2), (138, e0 (.bipush 10) 2), (140, e0 .irem 1), (141, (.putfield 76, 3, 1, 7, 0, 0))],
  [(144, e0 (.aload 8) 2), (146, e0 (.iload 5) 2), (148, (.putfield 79, 3, 1, 8, 0, 0)), (151, e0 (.aload 8) 2), (153, e0 (.aload_n 0) 1), (154, e0 (.aload 8) 2), (156, (.invokevirtual 82, 3, 1, 39, 2, 67)), (159, (.putfield 86, 3, 1, 4, 0, 0))],
  [(162, e0 (.aload 8) 2), (164, (.invokevirtual 89, 3, 1, 19, 1, 17)), (167, e0 (.bipush 12) 2), (169, e0 (.if_icmp .le 6) 3), (172, e0 (.bipush (-3)) 2), (174, (.ireturn, 1, 1, 0, 0, 0)), (175, e0 (.aload_n 0) 1)],
  [(176, e0 (.aload_n 0) 1), (177, (.getfield 22, 3, 3, 2, 0, 0)), (180, (.invokevirtual 93, 3, 1, 40, 2, 67)), (183, e0 (.aload_n 0) 1), (184, e0 .dup 1), (185, (.getfield 26, 3, 3, 3, 0, 0)), (188, e0 (.iconst 1) 1), (189, e0 (.aload_n 0) 1), (190, (.getfield 22, 3, 3, 2, 0, 0))],
  [(193, e0 .ishl 1), (194, e0 .ior 1), (195, (.putfield 26, 3, 3, 3, 0, 0)), (198, e0 (.aload_n 0) 1), (199, e0 .dup 1), (200, (.getfield 22, 3, 3, 2, 0, 0)), (203, e0 .dup_x1 1), (204, e0 (.iconst 1) 1), (205, e0 .iadd 1), (206, (.putfield 22, 3, 3, 2, 0, 0))],
  [(209, (.ireturn, 1, 1, 0, 0, 0))]]
theorem ok_38 : okT 38 pT_38 = true := by decide +kernel
def pT_39 : MT := [[(0, e0 (.iconst 0) 1), (1, e0 (.istore_n 2) 1), (2, e0 (.iconst 0) 1), (3, e0 (.istore_n 3) 1), (4, e0 (.iload_n 3) 1), (5, e0 (.aload_n 0) 1), (6, (.getfield 22, 3, 3, 2, 0, 0)), (9, e0 (.if_icmp .ge 47) 3), (12, e0 (.iload_n 3) 1), (13, e0 (.aload_n 0) 1), (14, (.getfield 26, 3, 3, 3, 0, 0))],
  [(17, (.invokestatic 44, 3, 1, 75, 2, 39)), (20, e0 (.ifCond .eq 30) 3), (23, e0 (.aload_n 0) 1), (24, (.getfield 11, 3, 3, 0, 1, 0)), (27, e0 (.iload_n 3) 1), (28, e0 .aaload 1), (29, e0 (.aload_n 1) 1), (30, (.invokevirtual 97, 3, 1, 14, 2, 65))],
  [(33, e0 (.ifCond .le 17) 3), (36, e0 (.iload_n 2) 1), (37, e0 (.aload_n 0) 1), (38, (.getfield 11, 3, 3, 0, 1, 0)), (41, e0 (.iload_n 3) 1), (42, e0 .aaload 1), (43, (.invokevirtual 89, 3, 1, 19, 1, 17)), (46, (.invokestatic 100, 3, 2, 4, 0, 0))],
  [(49, e0 (.istore_n 2) 1), (50, e0 (.iinc 3 1) 3), (53, e0 (.goto (-49)) 3), (56, e0 (.iload_n 2) 1), (57, (.ireturn, 1, 1, 0, 0, 0))]]
theorem ok_39 : okT 39 pT_39 = true := by decide +kernel
def pT_40 : MT := [[(0, e0 (.iconst 0) 1), (1, e0 (.istore_n 2) 1), (2, e0 (.iload_n 2) 1), (3, e0 (.bipush 7) 2), (5, e0 (.if_icmp .ge 81) 3), (8, e0 (.iload_n 2) 1), (9, e0 (.iload_n 1) 1), (10, e0 (.if_icmp .ge 28) 3), (13, e0 (.aload_n 0) 1), (14, (.getfield 11, 3, 3, 0, 1, 0))],
  [(17, e0 (.iload_n 2) 1), (18, e0 .aaload 1), (19, (.invokevirtual 89, 3, 1, 19, 1, 17)), (22, e0 (.aload_n 0) 1), (23, (.getfield 11, 3, 3, 0, 1, 0)), (26, e0 (.iload_n 1) 1), (27, e0 .aaload 1), (28, (.getfield 86, 3, 1, 4, 0, 0)), (31, e0 (.if_icmp .ne 7) 3)],
  [(34, e0 (.iconst 1) 1), (35, e0 (.goto 4) 3), (38, e0 (.iconst 0) 1), (39, e0 (.istore_n 3) 1), (40, e0 (.aload_n 0) 1), (41, (.getfield 19, 3, 3, 1, 1, 0)), (44, e0 (.iload_n 1) 1), (45, e0 .aaload 1), (46, e0 (.iload_n 2) 1), (47, e0 (.iload_n 3) 1)],
  [(48, e0 (.ifCond .eq 21) 3), (51, e0 (.aload_n 0) 1), (52, (.getfield 11, 3, 3, 0, 1, 0)), (55, e0 (.iload_n 1) 1), (56, e0 .aaload 1), (57, e0 (.aload_n 0) 1), (58, (.getfield 11, 3, 3, 0, 1, 0)), (61, e0 (.iload_n 2) 1), (62, e0 .aaload 1), (63, (.invokevirtual 97, 3, 1, 14, 2, 65))],
  [(66, e0 (.goto 4) 3), (69, e0 (.iconst 0) 1), (70, e0 .iastore 1), (71, e0 (.aload_n 0) 1), (72, (.getfield 19, 3, 3, 1, 1, 0)), (75, e0 (.iload_n 2) 1), (76, e0 .aaload 1), (77, e0 (.iload_n 1) 1), (78, e0 (.iconst 0) 1), (79, e0 .iastore 1)],
  [(80, e0 (.iinc 2 1) 3), (83, e0 (.goto (-81)) 3), (86, e0 .return_ 1)]]
theorem ok_40 : okT 40 pT_40 = true := by decide +kernel
def pT_41 : MT := [[(0, e0 (.iload_n 1) 1), (1, e0 (.ifCond .lt 21) 3), (4, e0 (.iload_n 1) 1), (5, e0 (.aload_n 0) 1), (6, (.getfield 22, 3, 3, 2, 0, 0)), (9, e0 (.if_icmp .ge 13) 3), (12, e0 (.iload_n 1) 1), (13, e0 (.bipush 7) 2), (15, e0 (.if_icmp .ge 7) 3)],
  [(18, e0 (.iconst 1) 1), (19, e0 (.goto 4) 3), (22, e0 (.iconst 0) 1), (23, (.ireturn, 1, 2, 0, 0, 0))]]
theorem ok_41 : okT 41 pT_41 = true := by decide +kernel
def pT_42 : MT := [[(0, e0 (.aload_n 0) 1), (1, e0 (.iload_n 1) 1), (2, (.invokevirtual 40, 3, 1, 41, 2, 35)), (5, e0 (.ifCond .eq 18) 3), (8, e0 (.iload_n 1) 1), (9, e0 (.aload_n 0) 1), (10, (.getfield 26, 3, 3, 3, 0, 0)), (13, (.invokestatic 44, 3, 1, 75, 2, 39))],
  [(16, e0 (.ifCond .eq 7) 3), (19, e0 (.iconst 1) 1), (20, e0 (.goto 4) 3), (23, e0 (.iconst 0) 1), (24, (.ireturn, 1, 2, 0, 0, 0))]]
theorem ok_42 : okT 42 pT_42 = true := by decide +kernel
def pT_43 : MT := [[(0, e0 (.iconst 0) 1), (1, e0 (.istore_n 3) 1), (2, e0 (.iconst 0) 1), (3, e0 (.istore 4) 2), (5, e0 (.iload 4) 2), (7, e0 (.bipush 7) 2), (9, e0 (.if_icmp .ge 37) 3), (12, e0 (.iload 4) 2), (14, e0 (.iload_n 2) 1), (15, (.invokestatic 44, 3, 1, 75, 2, 39))],
  [(18, e0 (.ifCond .eq 22) 3), (21, e0 (.aload_n 0) 1), (22, (.getfield 19, 3, 3, 1, 1, 0)), (25, e0 (.iload 4) 2), (27, e0 .aaload 1), (28, e0 (.iload_n 1) 1), (29, e0 .iaload 1), (30, e0 (.ifCond .le 10) 3)],
  [(33, e0 (.iload_n 3) 1), (34, e0 (.iconst 1) 1), (35, e0 (.iload 4) 2), (37, e0 .ishl 1), (38, e0 .ior 1), (39, e0 (.istore_n 3) 1), (40, e0 (.iinc 4 1) 3), (43, e0 (.goto (-38)) 3), (46, e0 (.iload_n 3) 1), (47, (.ireturn, 1, 1, 0, 0, 0))]]
theorem ok_43 : okT 43 pT_43 = true := by decide +kernel
def pT_44 : MT := [[(0, e0 (.aload_n 0) 1), (1, (.getfield 11, 3, 3, 0, 1, 0)), (4, e0 (.iload_n 1) 1), (5, e0 .aaload 1), (6, e0 (.astore_n 3) 1), (7, e0 (.iconst 0) 1), (8, e0 (.istore 4) 2), (10, e0 (.iconst 0) 1), (11, e0 (.istore 5) 2), (13, e0 (.iload 5) 2), (15, e0 (.bipush 7) 2)],
  [(17, e0 (.if_icmp .ge 89) 3), (20, e0 (.aload_n 0) 1), (21, (.getfield 11, 3, 3, 0, 1, 0)), (24, e0 (.iload 5) 2), (26, e0 .aaload 1), (27, e0 (.astore 6) 2), (29, e0 (.iload 5) 2), (31, e0 (.iload_n 2) 1)],
  [(32, (.invokestatic 44, 3, 1, 75, 2, 39)), (35, e0 (.ifCond .eq 30) 3), (38, e0 (.iload 5) 2), (40, e0 (.iload_n 1) 1), (41, e0 (.if_icmp .eq 24) 3), (44, e0 (.aload 6) 2), (46, (.getfield 64, 3, 1, 2, 0, 0))],
  [(49, e0 (.aload_n 3) 1), (50, (.getfield 64, 3, 1, 2, 0, 0)), (53, e0 (.aload_n 3) 1), (54, (.getfield 70, 3, 1, 5, 0, 0)), (57, e0 .iadd 1), (58, e0 (.if_icmp .lt 7) 3), (61, e0 (.iconst 1) 1), (62, e0 (.goto 4) 3)],
  [(65, e0 (.iconst 0) 1), (66, e0 (.istore 7) 2), (68, e0 (.iload 7) 2), (70, e0 (.ifCond .eq 30) 3), (73, e0 (.aload 6) 2), (75, e0 (.aload_n 3) 1), (76, (.invokevirtual 106, 3, 1, 24, 2, 33)), (79, e0 (.ifCond .eq 21) 3)],
  [(82, e0 (.aload 6) 2), (84, e0 (.aload_n 3) 1), (85, (.invokevirtual 110, 3, 1, 25, 2, 33)), (88, e0 (.ifCond .eq 12) 3), (91, e0 (.iload 4) 2), (93, e0 (.iconst 1) 1), (94, e0 (.iload 5) 2)],
  [(96, e0 .ishl 1), (97, e0 .ior 1), (98, e0 (.istore 4) 2), (100, e0 (.iinc 5 1) 3), (103, e0 (.goto (-90)) 3), (106, e0 (.iload 4) 2), (108, (.ireturn, 1, 1, 0, 0, 0))]]
theorem ok_44 : okT 44 pT_44 = true := by decide +kernel
def pT_45 : MT := [[(0, e0 (.iconst 0) 1), (1, e0 (.istore_n 3) 1), (2, e0 (.iconst 0) 1), (3, e0 (.istore 4) 2), (5, e0 (.iload 4) 2), (7, e0 (.bipush 7) 2), (9, e0 (.if_icmp .ge 37) 3), (12, e0 (.iload 4) 2), (14, e0 (.iload_n 2) 1), (15, (.invokestatic 44, 3, 1, 75, 2, 39))],
  [(18, e0 (.ifCond .eq 22) 3), (21, e0 (.aload_n 0) 1), (22, (.getfield 19, 3, 3, 1, 1, 0)), (25, e0 (.iload_n 1) 1), (26, e0 .aaload 1), (27, e0 (.iload 4) 2), (29, e0 .iaload 1), (30, e0 (.ifCond .le 10) 3)],
  [(33, e0 (.iload_n 3) 1), (34, e0 (.iconst 1) 1), (35, e0 (.iload 4) 2), (37, e0 .ishl 1), (38, e0 .ior 1), (39, e0 (.istore_n 3) 1), (40, e0 (.iinc 4 1) 3), (43, e0 (.goto (-38)) 3), (46, e0 (.iload_n 3) 1), (47, (.ireturn, 1, 1, 0, 0, 0))]]
theorem ok_45 : okT 45 pT_45 = true := by decide +kernel
def pT_46 : MT := [[(0, e0 (.iconst 0) 1), (1, e0 (.istore_n 2) 1), (2, e0 (.iload_n 2) 1), (3, e0 (.bipush 7) 2), (5, e0 (.if_icmp .ge 43) 3), (8, e0 (.aload_n 0) 1), (9, (.getfield 11, 3, 3, 0, 1, 0)), (12, e0 (.iload_n 2) 1), (13, e0 .aaload 1), (14, e0 (.aload_n 1) 1), (15, (.getfield 11, 3, 3, 0, 1, 0))],
  [(18, e0 (.iload_n 2) 1), (19, e0 .aaload 1), (20, (.invokevirtual 30, 3, 1, 30, 2, 33)), (23, e0 (.aload_n 1) 1), (24, (.getfield 19, 3, 3, 1, 1, 0)), (27, e0 (.iload_n 2) 1), (28, e0 .aaload 1), (29, e0 (.iconst 0) 1), (30, e0 (.aload_n 0) 1), (31, (.getfield 19, 3, 3, 1, 1, 0))],
  [(34, e0 (.iload_n 2) 1), (35, e0 .aaload 1), (36, e0 (.iconst 0) 1), (37, e0 (.bipush 7) 2), (39, (.invokestatic 34, 3, 2, 2, 0, 0)), (42, e0 (.iinc 2 1) 3), (45, e0 (.goto (-43)) 3)],
  [(48, e0 (.aload_n 0) 1), (49, e0 (.aload_n 1) 1), (50, (.getfield 22, 3, 3, 2, 0, 0)), (53, (.putfield 22, 3, 3, 2, 0, 0)), (56, e0 (.aload_n 0) 1), (57, e0 (.aload_n 1) 1), (58, (.getfield 26, 3, 3, 3, 0, 0)), (61, (.putfield 26, 3, 3, 3, 0, 0))],
  [(64, e0 .return_ 1)]]
theorem ok_46 : okT 46 pT_46 = true := by decide +kernel
def pT_47 : MT := [[(0, e0 (.iconst 0) 1), (1, e0 (.istore_n 1) 1), (2, e0 (.iconst 0) 1), (3, e0 (.istore_n 2) 1), (4, e0 (.iload_n 2) 1), (5, e0 (.bipush 7) 2), (7, e0 (.if_icmp .ge 32) 3), (10, e0 (.iload_n 2) 1), (11, e0 (.aload_n 0) 1), (12, (.getfield 26, 3, 3, 3, 0, 0)), (15, (.invokestatic 44, 3, 1, 75, 2, 39))],
  [(18, e0 (.ifCond .eq 15) 3), (21, e0 (.iload_n 1) 1), (22, e0 (.aload_n 0) 1), (23, (.getfield 11, 3, 3, 0, 1, 0)), (26, e0 (.iload_n 2) 1), (27, e0 .aaload 1), (28, (.getfield 79, 3, 1, 8, 0, 0)), (31, e0 .iadd 1)],
  [(32, e0 (.istore_n 1) 1), (33, e0 (.iinc 2 1) 3), (36, e0 (.goto (-32)) 3), (39, e0 (.iload_n 1) 1), (40, (.ireturn, 1, 1, 0, 0, 0))]]
theorem ok_47 : okT 47 pT_47 = true := by decide +kernel
def pT_48 : MT := [[(0, e0 (.iconst 0) 1), (1, e0 (.istore_n 1) 1), (2, e0 (.iconst 0) 1), (3, e0 (.istore_n 2) 1), (4, e0 (.iload_n 2) 1), (5, e0 (.bipush 7) 2), (7, e0 (.if_icmp .ge 35) 3), (10, e0 (.iload_n 2) 1), (11, e0 (.aload_n 0) 1), (12, (.getfield 26, 3, 3, 3, 0, 0)), (15, (.invokestatic 44, 3, 1, 75, 2, 39))],
  [(18, e0 (.ifCond .eq 18) 3), (21, e0 (.iload_n 1) 1), (22, e0 (.aload_n 0) 1), (23, e0 (.iload_n 2) 1), (24, e0 (.aload_n 0) 1), (25, (.getfield 26, 3, 3, 3, 0, 0)), (28, (.invokevirtual 113, 3, 1, 45, 3, 83)), (31, (.invokestatic 116, 3, 1, 217, 1, 26))],
  [(34, e0 .iadd 1), (35, e0 (.istore_n 1) 1), (36, e0 (.iinc 2 1) 3), (39, e0 (.goto (-35)) 3), (42, e0 (.iload_n 1) 1), (43, (.ireturn, 1, 1, 0, 0, 0))]]
theorem ok_48 : okT 48 pT_48 = true := by decide +kernel
def pT_49 : MT := [[(0, e0 (.aload_n 0) 1), (1, (.invokespecial 3, 3, 2, 1, 0, 0)), (4, e0 (.aload_n 0) 1), (5, e0 (.bipush 28) 2), (7, e0 (.newarray .int) 2), (9, (.putfield 9, 3, 4, 0, 1, 0)), (12, e0 (.aload_n 0) 1), (13, e0 (.bipush 28) 2), (15, e0 (.newarray .int) 2)],
  [(17, (.putfield 15, 3, 4, 1, 1, 0)), (20, e0 (.aload_n 0) 1), (21, e0 (.bipush 28) 2), (23, e0 (.newarray .int) 2), (25, (.putfield 18, 3, 4, 2, 1, 0)), (28, e0 (.aload_n 0) 1), (29, e0 (.bipush 28) 2), (31, e0 (.newarray .int) 2)],
  [(33, (.putfield 21, 3, 4, 3, 1, 0)), (36, e0 (.aload_n 0) 1), (37, e0 (.iconst 0) 1), (38, (.putfield 24, 3, 4, 4, 0, 0)), (41, e0 (.aload_n 0) 1), (42, e0 (.iconst 0) 1), (43, (.putfield 28, 3, 4, 5, 0, 0)), (46, e0 .return_ 1)]]
theorem ok_49 : okT 49 pT_49 = true := by decide +kernel
def pT_50 : MT := [[(0, e0 (.aload_n 0) 1), (1, e0 (.iconst 0) 1), (2, (.putfield 24, 3, 4, 4, 0, 0)), (5, e0 (.aload_n 0) 1), (6, e0 (.iconst 0) 1), (7, (.putfield 28, 3, 4, 5, 0, 0)), (10, e0 .return_ 1)]]
theorem ok_50 : okT 50 pT_50 = true := by decide +kernel
def pT_51 : MT := [[(0, e0 (.aload_n 0) 1), (1, (.getfield 24, 3, 4, 4, 0, 0)), (4, e0 (.iconst 4) 1), (5, e0 .iadd 1), (6, e0 (.aload_n 0) 1), (7, (.getfield 9, 3, 4, 0, 1, 0)), (10, e0 .arraylength 1), (11, e0 (.if_icmp .le 4) 3), (14, e0 .return_ 1), (15, e0 (.iconst 0) 1)],
  [(16, e0 (.istore_n 3) 1), (17, e0 (.iload_n 3) 1), (18, e0 (.iconst 4) 1), (19, e0 (.if_icmp .ge 74) 3), (22, e0 (.aload_n 0) 1), (23, (.getfield 9, 3, 4, 0, 1, 0)), (26, e0 (.aload_n 0) 1), (27, (.getfield 24, 3, 4, 4, 0, 0)), (30, e0 (.iload_n 3) 1), (31, e0 (.iconst 2) 1)],
  [(32, e0 (.if_icmp .ge 11) 3), (35, e0 (.aload_n 1) 1), (36, e0 (.aload_n 2) 1), (37, (.invokevirtual 31, 3, 1, 16, 2, 33)), (40, e0 (.goto 8) 3), (43, e0 (.aload_n 1) 1), (44, e0 (.aload_n 2) 1), (45, (.invokevirtual 37, 3, 1, 15, 2, 33))],
  [(48, e0 .iastore 1), (49, e0 (.aload_n 0) 1), (50, (.getfield 15, 3, 4, 1, 1, 0)), (53, e0 (.aload_n 0) 1), (54, (.getfield 24, 3, 4, 4, 0, 0)), (57, e0 (.iload_n 3) 1), (58, e0 (.iconst 2) 1), (59, e0 .irem 1), (60, e0 (.ifCond .ne 11) 3), (63, e0 (.aload_n 1) 1)],
  [(64, e0 (.aload_n 2) 1), (65, (.invokevirtual 40, 3, 1, 18, 2, 33)), (68, e0 (.goto 8) 3), (71, e0 (.aload_n 1) 1), (72, e0 (.aload_n 2) 1), (73, (.invokevirtual 43, 3, 1, 17, 2, 33)), (76, e0 .iastore 1), (77, e0 (.aload_n 0) 1), (78, e0 .dup 1), (79, (.getfield 24, 3, 4, 4, 0, 0))],
  [(82, e0 (.iconst 1) 1), (83, e0 .iadd 1), (84, (.putfield 24, 3, 4, 4, 0, 0)), (87, e0 (.iinc 3 1) 3), (90, e0 (.goto (-73)) 3), (93, e0 .return_ 1)]]
theorem ok_51 : okT 51 pT_51 = true := by decide +kernel
