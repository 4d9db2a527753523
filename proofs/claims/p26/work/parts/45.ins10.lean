/-! ===== more instructions ===== -/
def pT_223_0 : List (Nat × E6) := [(0, e0 (.new 7) 3), (3, e0 .dup 1), (4, (.invokespecial 9, 3, 1, 69, 1, 39)), (7, e0 (.astore_n 1) 1), (8, e0 (.new 10) 3), (11, e0 .dup 1), (12, (.invokespecial 12, 3, 1, 123, 1, 40)), (15, e0 (.astore_n 2) 1)]
theorem okk_0 : pT_223_0.all (fun q => okE 223 q.1 q.2) = true := by decide +kernel
def pT_223_1 : List (Nat × E6) := [(16, e0 (.iconst 0) 1), (17, e0 (.istore_n 3) 1), (18, e0 (.iload_n 3) 1), (19, e0 (.aload_n 0) 1), (20, e0 .arraylength 1), (21, e0 (.bipush 7) 2), (23, e0 .isub 1), (24, e0 (.if_icmp .gt 1347) 3), (27, e0 (.aload_n 0) 1), (28, e0 (.iload_n 3) 1), (29, e0 .iaload 1), (30, e0 (.bipush 63) 2)]
theorem okk_1 : pT_223_1.all (fun q => okE 223 q.1 q.2) = true := by decide +kernel
def pT_223_2 : List (Nat × E6) := [(32, e0 .iand 1), (33, e0 (.tableswitch 1332 0 34 #[155, 218, 251, 294, 337, 370, 393, 426, 459, 482, 515, 558, 601, 624, 647, 670, 703, 726, 739, 762, 785, 808, 851, 884, 937, 1012, 1025, 1058, 1081, 1134, 1147, 1160, 1183, 1226, 1269]) 155)]
theorem okk_2 : pT_223_2.all (fun q => okE 223 q.1 q.2) = true := by decide +kernel
def pT_223_3 : List (Nat × E6) := []
theorem okk_3 : pT_223_3.all (fun q => okE 223 q.1 q.2) = true := by decide +kernel
def pT_223_4 : List (Nat × E6) := []
theorem okk_4 : pT_223_4.all (fun q => okE 223 q.1 q.2) = true := by decide +kernel
def pT_223_5 : List (Nat × E6) := []
theorem okk_5 : pT_223_5.all (fun q => okE 223 q.1 q.2) = true := by decide +kernel
def pT_223_6 : List (Nat × E6) := []
theorem okk_6 : pT_223_6.all (fun q => okE 223 q.1 q.2) = true := by decide +kernel
def pT_223_7 : List (Nat × E6) := []
theorem okk_7 : pT_223_7.all (fun q => okE 223 q.1 q.2) = true := by decide +kernel
def pT_223_8 : List (Nat × E6) := []
theorem okk_8 : pT_223_8.all (fun q => okE 223 q.1 q.2) = true := by decide +kernel
def pT_223_9 : List (Nat × E6) := []
theorem okk_9 : pT_223_9.all (fun q => okE 223 q.1 q.2) = true := by decide +kernel
def pT_223_10 : List (Nat × E6) := []
theorem okk_10 : pT_223_10.all (fun q => okE 223 q.1 q.2) = true := by decide +kernel
def pT_223_11 : List (Nat × E6) := [(188, e0 (.aload_n 1) 1), (189, e0 (.aload_n 0) 1), (190, e0 (.iload_n 3) 1), (191, e0 (.iconst 1) 1)]
theorem okk_11 : pT_223_11.all (fun q => okE 223 q.1 q.2) = true := by decide +kernel
def pT_223_12 : List (Nat × E6) := [(192, e0 .iadd 1), (193, e0 .iaload 1), (194, e0 (.aload_n 0) 1), (195, e0 (.iload_n 3) 1), (196, e0 (.iconst 2) 1), (197, e0 .iadd 1), (198, e0 .iaload 1), (199, e0 (.aload_n 0) 1), (200, e0 (.iload_n 3) 1), (201, e0 (.iconst 3) 1), (202, e0 .iadd 1), (203, e0 .iaload 1), (204, e0 (.aload_n 0) 1), (205, e0 (.iload_n 3) 1), (206, e0 (.iconst 4) 1), (207, e0 .iadd 1)]
theorem okk_12 : pT_223_12.all (fun q => okE 223 q.1 q.2) = true := by decide +kernel
def pT_223_13 : List (Nat × E6) := [(208, e0 .iaload 1), (209, e0 (.aload_n 0) 1), (210, e0 (.iload_n 3) 1), (211, e0 (.iconst 5) 1), (212, e0 .iadd 1), (213, e0 .iaload 1), (214, (.invokevirtual 13, 3, 1, 70, 6, 103)), (217, e0 .pop 1), (218, e0 (.aload_n 2) 1), (219, e0 (.aload_n 0) 1), (220, e0 (.iload_n 3) 1), (221, e0 (.iconst 1) 1), (222, e0 .iadd 1), (223, e0 .iaload 1)]
theorem okk_13 : pT_223_13.all (fun q => okE 223 q.1 q.2) = true := by decide +kernel
def pT_223_14 : List (Nat × E6) := [(224, e0 (.aload_n 0) 1), (225, e0 (.iload_n 3) 1), (226, e0 (.iconst 2) 1), (227, e0 .iadd 1), (228, e0 .iaload 1), (229, e0 (.aload_n 0) 1), (230, e0 (.iload_n 3) 1), (231, e0 (.iconst 3) 1), (232, e0 .iadd 1), (233, e0 .iaload 1), (234, e0 (.aload_n 0) 1), (235, e0 (.iload_n 3) 1), (236, e0 (.iconst 4) 1), (237, e0 .iadd 1), (238, e0 .iaload 1), (239, e0 (.aload_n 0) 1)]
theorem okk_14 : pT_223_14.all (fun q => okE 223 q.1 q.2) = true := by decide +kernel
def pT_223_15 : List (Nat × E6) := [(240, e0 (.iload_n 3) 1), (241, e0 (.iconst 5) 1), (242, e0 .iadd 1), (243, e0 .iaload 1), (244, (.invokevirtual 17, 3, 1, 124, 6, 120)), (247, e0 .pop 1), (248, e0 (.goto 1117) 3), (251, e0 (.aload_n 1) 1), (252, e0 (.aload_n 0) 1), (253, e0 (.iload_n 3) 1), (254, e0 (.iconst 1) 1), (255, e0 .iadd 1)]
theorem okk_15 : pT_223_15.all (fun q => okE 223 q.1 q.2) = true := by decide +kernel
def pT_223_16 : List (Nat × E6) := [(256, e0 .iaload 1), (257, e0 (.aload_n 0) 1), (258, e0 (.iload_n 3) 1), (259, e0 (.iconst 2) 1), (260, e0 .iadd 1), (261, e0 .iaload 1), (262, (.invokevirtual 18, 3, 1, 76, 3, 71)), (265, e0 .pop 1), (266, e0 (.aload_n 2) 1), (267, e0 (.aload_n 0) 1), (268, e0 (.iload_n 3) 1), (269, e0 (.iconst 1) 1), (270, e0 .iadd 1), (271, e0 .iaload 1)]
theorem okk_16 : pT_223_16.all (fun q => okE 223 q.1 q.2) = true := by decide +kernel
def pT_223_17 : List (Nat × E6) := [(272, e0 (.aload_n 0) 1), (273, e0 (.iload_n 3) 1), (274, e0 (.iconst 2) 1), (275, e0 .iadd 1), (276, e0 .iaload 1), (277, (.invokevirtual 22, 3, 1, 136, 3, 56)), (280, e0 .pop 1), (281, e0 (.goto 1084) 3), (284, e0 (.aload_n 1) 1), (285, e0 (.aload_n 0) 1), (286, e0 (.iload_n 3) 1), (287, e0 (.iconst 1) 1)]
theorem okk_17 : pT_223_17.all (fun q => okE 223 q.1 q.2) = true := by decide +kernel
def pT_223_18 : List (Nat × E6) := [(288, e0 .iadd 1), (289, e0 .iaload 1), (290, e0 (.aload_n 0) 1), (291, e0 (.iload_n 3) 1), (292, e0 (.iconst 2) 1), (293, e0 .iadd 1), (294, e0 .iaload 1), (295, e0 (.aload_n 0) 1), (296, e0 (.iload_n 3) 1), (297, e0 (.iconst 3) 1), (298, e0 .iadd 1), (299, e0 .iaload 1), (300, (.invokevirtual 23, 3, 1, 77, 4, 103)), (303, e0 .pop 1)]
theorem okk_18 : pT_223_18.all (fun q => okE 223 q.1 q.2) = true := by decide +kernel
def pT_223_19 : List (Nat × E6) := [(304, e0 (.aload_n 2) 1), (305, e0 (.aload_n 0) 1), (306, e0 (.iload_n 3) 1), (307, e0 (.iconst 1) 1), (308, e0 .iadd 1), (309, e0 .iaload 1), (310, e0 (.aload_n 0) 1), (311, e0 (.iload_n 3) 1), (312, e0 (.iconst 2) 1), (313, e0 .iadd 1), (314, e0 .iaload 1), (315, e0 (.aload_n 0) 1), (316, e0 (.iload_n 3) 1), (317, e0 (.iconst 3) 1), (318, e0 .iadd 1), (319, e0 .iaload 1)]
theorem okk_19 : pT_223_19.all (fun q => okE 223 q.1 q.2) = true := by decide +kernel
def pT_223_20 : List (Nat × E6) := [(320, (.invokevirtual 27, 3, 1, 140, 4, 88)), (323, e0 .pop 1), (324, e0 (.goto 1041) 3), (327, e0 (.aload_n 1) 1), (328, e0 (.aload_n 0) 1), (329, e0 (.iload_n 3) 1), (330, e0 (.iconst 1) 1), (331, e0 .iadd 1), (332, e0 .iaload 1), (333, e0 (.aload_n 0) 1), (334, e0 (.iload_n 3) 1), (335, e0 (.iconst 2) 1)]
theorem okk_20 : pT_223_20.all (fun q => okE 223 q.1 q.2) = true := by decide +kernel
def pT_223_21 : List (Nat × E6) := [(336, e0 .iadd 1), (337, e0 .iaload 1), (338, e0 (.aload_n 0) 1), (339, e0 (.iload_n 3) 1), (340, e0 (.iconst 3) 1), (341, e0 .iadd 1), (342, e0 .iaload 1), (343, (.invokevirtual 28, 3, 1, 78, 4, 135)), (346, e0 .pop 1), (347, e0 (.aload_n 2) 1), (348, e0 (.aload_n 0) 1), (349, e0 (.iload_n 3) 1), (350, e0 (.iconst 1) 1), (351, e0 .iadd 1)]
theorem okk_21 : pT_223_21.all (fun q => okE 223 q.1 q.2) = true := by decide +kernel
def pT_223_22 : List (Nat × E6) := [(352, e0 .iaload 1), (353, e0 (.aload_n 0) 1), (354, e0 (.iload_n 3) 1), (355, e0 (.iconst 2) 1), (356, e0 .iadd 1), (357, e0 .iaload 1), (358, e0 (.aload_n 0) 1), (359, e0 (.iload_n 3) 1), (360, e0 (.iconst 3) 1), (361, e0 .iadd 1), (362, e0 .iaload 1), (363, (.invokevirtual 31, 3, 1, 142, 4, 120)), (366, e0 .pop 1), (367, e0 (.goto 998) 3)]
theorem okk_22 : pT_223_22.all (fun q => okE 223 q.1 q.2) = true := by decide +kernel
def pT_223_23 : List (Nat × E6) := [(370, e0 (.aload_n 1) 1), (371, e0 (.aload_n 0) 1), (372, e0 (.iload_n 3) 1), (373, e0 (.iconst 1) 1), (374, e0 .iadd 1), (375, e0 .iaload 1), (376, e0 (.aload_n 0) 1), (377, e0 (.iload_n 3) 1), (378, e0 (.iconst 2) 1), (379, e0 .iadd 1), (380, e0 .iaload 1), (381, (.invokevirtual 32, 3, 1, 79, 3, 71))]
theorem okk_23 : pT_223_23.all (fun q => okE 223 q.1 q.2) = true := by decide +kernel
def pT_223_24 : List (Nat × E6) := [(384, e0 .pop 1), (385, e0 (.aload_n 2) 1), (386, e0 (.aload_n 0) 1), (387, e0 (.iload_n 3) 1), (388, e0 (.iconst 1) 1), (389, e0 .iadd 1), (390, e0 .iaload 1), (391, e0 (.aload_n 0) 1), (392, e0 (.iload_n 3) 1), (393, e0 (.iconst 2) 1), (394, e0 .iadd 1), (395, e0 .iaload 1), (396, (.invokevirtual 35, 3, 1, 143, 3, 56)), (399, e0 .pop 1)]
theorem okk_24 : pT_223_24.all (fun q => okE 223 q.1 q.2) = true := by decide +kernel
