/-! ===== all methods ===== -/
def pTL : List (List (Nat × MT)) := [[(0, pT_0), (1, pT_1), (2, pT_2), (3, pT_3), (4, pT_4), (5, pT_5), (6, pT_6), (7, pT_7), (8, pT_8), (9, pT_9), (10, pT_10), (11, pT_11), (12, pT_12), (13, pT_13), (14, pT_14), (15, pT_15)],
  [(16, pT_16), (17, pT_17), (18, pT_18), (19, pT_19), (20, pT_20), (21, pT_21), (22, pT_22), (23, pT_23), (24, pT_24), (25, pT_25), (26, pT_26), (27, pT_27), (28, pT_28), (29, pT_29), (30, pT_30), (31, pT_31)],
  [(32, pT_32), (33, pT_33), (34, pT_34), (35, pT_35), (36, pT_36), (37, pT_37), (38, pT_38), (39, pT_39), (40, pT_40), (41, pT_41), (42, pT_42), (43, pT_43), (44, pT_44), (45, pT_45), (46, pT_46), (47, pT_47)],
  [(48, pT_48), (49, pT_49), (50, pT_50), (51, pT_51), (52, pT_52), (53, pT_53), (54, pT_54), (55, pT_55), (56, pT_56), (57, pT_57), (58, pT_58), (59, pT_59), (60, pT_60), (61, pT_61), (62, pT_62), (63, pT_63)],
  [(64, pT_64), (65, pT_65), (66, pT_66), (67, pT_67), (68, pT_68), (69, pT_69), (70, pT_70), (71, pT_71), (72, pT_72), (73, pT_73), (74, pT_74), (75, pT_75), (76, pT_76), (77, pT_77), (78, pT_78), (79, pT_79)],
  [(80, pT_80), (81, pT_81), (82, pT_82), (83, pT_83), (84, pT_84), (85, pT_85), (86, pT_86), (87, pT_87), (88, pT_88), (89, pT_89), (90, pT_90), (91, pT_91), (92, pT_92), (93, pT_93), (94, pT_94), (95, pT_95)],
  [(96, pT_96), (97, pT_97), (98, pT_98), (99, pT_99), (100, pT_100), (101, pT_101), (102, pT_102), (103, pT_103), (104, pT_104), (105, pT_105), (106, pT_106), (107, pT_107), (108, pT_108), (109, pT_109), (110, pT_110), (111, pT_111)],
  [(112, pT_112), (113, pT_113), (114, pT_114), (115, pT_115), (116, pT_116), (117, pT_117), (118, pT_118), (119, pT_119), (120, pT_120), (121, pT_121), (122, pT_122), (123, pT_123), (124, pT_124), (125, pT_125), (126, pT_126), (127, pT_127)],
  [(128, pT_128), (129, pT_129), (130, pT_130), (131, pT_131), (132, pT_132), (133, pT_133), (134, pT_134), (135, pT_135), (136, pT_136), (137, pT_137), (138, pT_138), (139, pT_139), (140, pT_140), (141, pT_141), (142, pT_142), (143, pT_143)],
  [(144, pT_144), (145, pT_145), (146, pT_146), (147, pT_147), (148, pT_148), (149, pT_149), (150, pT_150), (151, pT_151), (152, pT_152), (153, pT_153), (154, pT_154), (155, pT_155), (156, pT_156), (157, pT_157), (158, pT_158), (159, pT_159)],
  [(160, pT_160), (161, pT_161), (162, pT_162), (163, pT_163), (164, pT_164), (165, pT_165), (166, pT_166), (167, pT_167), (168, pT_168), (169, pT_169), (170, pT_170), (171, pT_171), (172, pT_172), (173, pT_173), (174, pT_174), (175, pT_175)],
  [(176, pT_176), (177, pT_177), (178, pT_178), (179, pT_179), (180, pT_180), (181, pT_181), (182, pT_182), (183, pT_183), (184, pT_184), (185, pT_185), (186, pT_186), (187, pT_187), (188, pT_188), (189, pT_189), (190, pT_190), (191, pT_191)],
  [(192, pT_192), (193, pT_193), (194, pT_194), (195, pT_195), (196, pT_196), (197, pT_197), (198, pT_198), (199, pT_199), (200, pT_200), (201, pT_201), (202, pT_202), (203, pT_203), (204, pT_204), (205, pT_205), (206, pT_206), (207, pT_207)],
  [(208, pT_208), (209, pT_209), (210, pT_210), (211, pT_211), (212, pT_212), (213, pT_213), (214, pT_214), (215, pT_215), (216, pT_216), (217, pT_217), (218, pT_218), (219, pT_219), (220, pT_220), (221, pT_221), (222, pT_222), (223, pT_223)]]
theorem okc_0 : ([(0, pT_0), (1, pT_1), (2, pT_2), (3, pT_3), (4, pT_4), (5, pT_5), (6, pT_6), (7, pT_7), (8, pT_8), (9, pT_9), (10, pT_10), (11, pT_11), (12, pT_12), (13, pT_13), (14, pT_14), (15, pT_15)] : List (Nat × MT)).all (fun q => okT q.1 q.2) = true := by simp only [List.all_cons, List.all_nil, Bool.and_true, Bool.and_self, ok_0, ok_1, ok_2, ok_3, ok_4, ok_5, ok_6, ok_7, ok_8, ok_9, ok_10, ok_11, ok_12, ok_13, ok_14, ok_15]
theorem okc_1 : ([(16, pT_16), (17, pT_17), (18, pT_18), (19, pT_19), (20, pT_20), (21, pT_21), (22, pT_22), (23, pT_23), (24, pT_24), (25, pT_25), (26, pT_26), (27, pT_27), (28, pT_28), (29, pT_29), (30, pT_30), (31, pT_31)] : List (Nat × MT)).all (fun q => okT q.1 q.2) = true := by simp only [List.all_cons, List.all_nil, Bool.and_true, Bool.and_self, ok_16, ok_17, ok_18, ok_19, ok_20, ok_21, ok_22, ok_23, ok_24, ok_25, ok_26, ok_27, ok_28, ok_29, ok_30, ok_31]
theorem okc_2 : ([(32, pT_32), (33, pT_33), (34, pT_34), (35, pT_35), (36, pT_36), (37, pT_37), (38, pT_38), (39, pT_39), (40, pT_40), (41, pT_41), (42, pT_42), (43, pT_43), (44, pT_44), (45, pT_45), (46, pT_46), (47, pT_47)] : List (Nat × MT)).all (fun q => okT q.1 q.2) = true := by simp only [List.all_cons, List.all_nil, Bool.and_true, Bool.and_self, ok_32, ok_33, ok_34, ok_35, ok_36, ok_37, ok_38, ok_39, ok_40, ok_41, ok_42, ok_43, ok_44, ok_45, ok_46, ok_47]
theorem okc_3 : ([(48, pT_48), (49, pT_49), (50, pT_50), (51, pT_51), (52, pT_52), (53, pT_53), (54, pT_54), (55, pT_55), (56, pT_56), (57, pT_57), (58, pT_58), (59, pT_59), (60, pT_60), (61, pT_61), (62, pT_62), (63, pT_63)] : List (Nat × MT)).all (fun q => okT q.1 q.2) = true := by simp only [List.all_cons, List.all_nil, Bool.and_true, Bool.and_self, ok_48, ok_49, ok_50, ok_51, ok_52, ok_53, ok_54, ok_55, ok_56, ok_57, ok_58, ok_59, ok_60, ok_61, ok_62, ok_63]
theorem okc_4 : ([(64, pT_64), (65, pT_65), (66, pT_66), (67, pT_67), (68, pT_68), (69, pT_69), (70, pT_70), (71, pT_71), (72, pT_72), (73, pT_73), (74, pT_74), (75, pT_75), (76, pT_76), (77, pT_77), (78, pT_78), (79, pT_79)] : List (Nat × MT)).all (fun q => okT q.1 q.2) = true := by simp only [List.all_cons, List.all_nil, Bool.and_true, Bool.and_self, ok_64, ok_65, ok_66, ok_67, ok_68, ok_69, ok_70, ok_71, ok_72, ok_73, ok_74, ok_75, ok_76, ok_77, ok_78, ok_79]
theorem okc_5 : ([(80, pT_80), (81, pT_81), (82, pT_82), (83, pT_83), (84, pT_84), (85, pT_85), (86, pT_86), (87, pT_87), (88, pT_88), (89, pT_89), (90, pT_90), (91, pT_91), (92, pT_92), (93, pT_93), (94, pT_94), (95, pT_95)] : List (Nat × MT)).all (fun q => okT q.1 q.2) = true := by simp only [List.all_cons, List.all_nil, Bool.and_true, Bool.and_self, ok_80, ok_81, ok_82, ok_83, ok_84, ok_85, ok_86, ok_87, ok_88, ok_89, ok_90, ok_91, ok_92, ok_93, ok_94, ok_95]
theorem okc_6 : ([(96, pT_96), (97, pT_97), (98, pT_98), (99, pT_99), (100, pT_100), (101, pT_101), (102, pT_102), (103, pT_103), (104, pT_104), (105, pT_105), (106, pT_106), (107, pT_107), (108, pT_108), (109, pT_109), (110, pT_110), (111, pT_111)] : List (Nat × MT)).all (fun q => okT q.1 q.2) = true := by simp only [List.all_cons, List.all_nil, Bool.and_true, Bool.and_self, ok_96, ok_97, ok_98, ok_99, ok_100, ok_101, ok_102, ok_103, ok_104, ok_105, ok_106, ok_107, ok_108, ok_109, ok_110, ok_111]
theorem okc_7 : ([(112, pT_112), (113, pT_113), (114, pT_114), (115, pT_115), (116, pT_116), (117, pT_117), (118, pT_118), (119, pT_119), (120, pT_120), (121, pT_121), (122, pT_122), (123, pT_123), (124, pT_124), (125, pT_125), (126, pT_126), (127, pT_127)] : List (Nat × MT)).all (fun q => okT q.1 q.2) = true := by simp only [List.all_cons, List.all_nil, Bool.and_true, Bool.and_self, ok_112, ok_113, ok_114, ok_115, ok_116, ok_117, ok_118, ok_119, ok_120, ok_121, ok_122, ok_123, ok_124, ok_125, ok_126, ok_127]
theorem okc_8 : ([(128, pT_128), (129, pT_129), (130, pT_130), (131, pT_131), (132, pT_132), (133, pT_133), (134, pT_134), (135, pT_135), (136, pT_136), (137, pT_137), (138, pT_138), (139, pT_139), (140, pT_140), (141, pT_141), (142, pT_142), (143, pT_143)] : List (Nat × MT)).all (fun q => okT q.1 q.2) = true := by simp only [List.all_cons, List.all_nil, Bool.and_true, Bool.and_self, ok_128, ok_129, ok_130, ok_131, ok_132, ok_133, ok_134, ok_135, ok_136, ok_137, ok_138, ok_139, ok_140, ok_141, ok_142, ok_143]
theorem okc_9 : ([(144, pT_144), (145, pT_145), (146, pT_146), (147, pT_147), (148, pT_148), (149, pT_149), (150, pT_150), (151, pT_151), (152, pT_152), (153, pT_153), (154, pT_154), (155, pT_155), (156, pT_156), (157, pT_157), (158, pT_158), (159, pT_159)] : List (Nat × MT)).all (fun q => okT q.1 q.2) = true := by simp only [List.all_cons, List.all_nil, Bool.and_true, Bool.and_self, ok_144, ok_145, ok_146, ok_147, ok_148, ok_149, ok_150, ok_151, ok_152, ok_153, ok_154, ok_155, ok_156, ok_157, ok_158, ok_159]
theorem okc_10 : ([(160, pT_160), (161, pT_161), (162, pT_162), (163, pT_163), (164, pT_164), (165, pT_165), (166, pT_166), (167, pT_167), (168, pT_168), (169, pT_169), (170, pT_170), (171, pT_171), (172, pT_172), (173, pT_173), (174, pT_174), (175, pT_175)] : List (Nat × MT)).all (fun q => okT q.1 q.2) = true := by simp only [List.all_cons, List.all_nil, Bool.and_true, Bool.and_self, ok_160, ok_161, ok_162, ok_163, ok_164, ok_165, ok_166, ok_167, ok_168, ok_169, ok_170, ok_171, ok_172, ok_173, ok_174, ok_175]
theorem okc_11 : ([(176, pT_176), (177, pT_177), (178, pT_178), (179, pT_179), (180, pT_180), (181, pT_181), (182, pT_182), (183, pT_183), (184, pT_184), (185, pT_185), (186, pT_186), (187, pT_187), (188, pT_188), (189, pT_189), (190, pT_190), (191, pT_191)] : List (Nat × MT)).all (fun q => okT q.1 q.2) = true := by simp only [List.all_cons, List.all_nil, Bool.and_true, Bool.and_self, ok_176, ok_177, ok_178, ok_179, ok_180, ok_181, ok_182, ok_183, ok_184, ok_185, ok_186, ok_187, ok_188, ok_189, ok_190, ok_191]
theorem okc_12 : ([(192, pT_192), (193, pT_193), (194, pT_194), (195, pT_195), (196, pT_196), (197, pT_197), (198, pT_198), (199, pT_199), (200, pT_200), (201, pT_201), (202, pT_202), (203, pT_203), (204, pT_204), (205, pT_205), (206, pT_206), (207, pT_207)] : List (Nat × MT)).all (fun q => okT q.1 q.2) = true := by simp only [List.all_cons, List.all_nil, Bool.and_true, Bool.and_self, ok_192, ok_193, ok_194, ok_195, ok_196, ok_197, ok_198, ok_199, ok_200, ok_201, ok_202, ok_203, ok_204, ok_205, ok_206, ok_207]
theorem okc_13 : ([(208, pT_208), (209, pT_209), (210, pT_210), (211, pT_211), (212, pT_212), (213, pT_213), (214, pT_214), (215, pT_215), (216, pT_216), (217, pT_217), (218, pT_218), (219, pT_219), (220, pT_220), (221, pT_221), (222, pT_222), (223, pT_223)] : List (Nat × MT)).all (fun q => okT q.1 q.2) = true := by simp only [List.all_cons, List.all_nil, Bool.and_true, Bool.and_self, ok_208, ok_209, ok_210, ok_211, ok_212, ok_213, ok_214, ok_215, ok_216, ok_217, ok_218, ok_219, ok_220, ok_221, ok_222, ok_223]
theorem ok_all : pTL.all (fun c => c.all (fun q => okT q.1 q.2)) = true := by
  unfold pTL
  simp only [List.all_cons, List.all_nil, Bool.and_true, Bool.and_self, ok_0, ok_1, ok_2, ok_3, ok_4, ok_5, ok_6, ok_7, ok_8, ok_9, ok_10, ok_11, ok_12, ok_13, ok_14, ok_15, ok_16, ok_17, ok_18, ok_19, ok_20, ok_21, ok_22, ok_23, ok_24, ok_25, ok_26, ok_27, ok_28, ok_29, ok_30, ok_31, ok_32, ok_33, ok_34, ok_35, ok_36, ok_37, ok_38, ok_39, ok_40, ok_41, ok_42, ok_43, ok_44, ok_45, ok_46, ok_47, ok_48, ok_49, ok_50, ok_51, ok_52, ok_53, ok_54, ok_55, ok_56, ok_57, ok_58, ok_59, ok_60, ok_61, ok_62, ok_63, ok_64, ok_65, ok_66, ok_67, ok_68, ok_69, ok_70, ok_71, ok_72, ok_73, ok_74, ok_75, ok_76, ok_77, ok_78, ok_79, ok_80, ok_81, ok_82, ok_83, ok_84, ok_85, ok_86, ok_87, ok_88, ok_89, ok_90, ok_91, ok_92, ok_93, ok_94, ok_95, ok_96, ok_97, ok_98, ok_99, ok_100, ok_101, ok_102, ok_103, ok_104, ok_105, ok_106, ok_107, ok_108, ok_109, ok_110, ok_111, ok_112, ok_113, ok_114, ok_115, ok_116, ok_117, ok_118, ok_119, ok_120, ok_121, ok_122, ok_123, ok_124, ok_125, ok_126, ok_127, ok_128, ok_129, ok_130, ok_131, ok_132, ok_133, ok_134, ok_135, ok_136, ok_137, ok_138, ok_139, ok_140, ok_141, ok_142, ok_143, ok_144, ok_145, ok_146, ok_147, ok_148, ok_149, ok_150, ok_151, ok_152, ok_153, ok_154, ok_155, ok_156, ok_157, ok_158, ok_159, ok_160, ok_161, ok_162, ok_163, ok_164, ok_165, ok_166, ok_167, ok_168, ok_169, ok_170, ok_171, ok_172, ok_173, ok_174, ok_175, ok_176, ok_177, ok_178, ok_179, ok_180, ok_181, ok_182, ok_183, ok_184, ok_185, ok_186, ok_187, ok_188, ok_189, ok_190, ok_191, ok_192, ok_193, ok_194, ok_195, ok_196, ok_197, ok_198, ok_199, ok_200, ok_201, ok_202, ok_203, ok_204, ok_205, ok_206, ok_207, ok_208, ok_209, ok_210, ok_211, ok_212, ok_213, ok_214, ok_215, ok_216, ok_217, ok_218, ok_219, ok_220, ok_221, ok_222, ok_223]
def fnd {α : Type} : List (Nat × α) → Nat → Option α
  | [], _ => none
  | e :: r, k => bif Nat.beq e.1 k then some e.2 else fnd r k
theorem fnd_in {α : Type} : ∀ {r : List (Nat × α)} {k : Nat} {a : α}, fnd r k = some a → (k, a) ∈ r
  | [], _, _, h => by cases h
  | e :: r, k, a, h => by
    unfold fnd at h
    cases hk : Nat.beq e.1 k with
    | true =>
      rw [hk] at h
      cases h
      have := Nat.eq_of_beq_eq_true hk
      subst this
      exact List.mem_cons_self
    | false =>
      rw [hk] at h
      exact List.mem_cons_of_mem _ (fnd_in h)
def pTm (m : Nat) : Option MT := match nth pTL (m / 16) with
  | some r => fnd r m
  | none => none
def pI (t : MT) (pc : Nat) : Option E6 := match nth t (pc / 16) with
  | some r => fnd r pc
  | none => none
theorem nth_in {α : Type} : ∀ {r : List α} {i : Nat} {a : α}, nth r i = some a → a ∈ r
  | _ :: _, 0, _, h => by cases h; exact List.mem_cons_self
  | _ :: r, i + 1, _, h => List.mem_cons_of_mem _ (nth_in (r := r) h)
  | [], _, _, h => by cases h
theorem pTm_ok {m : Nat} {t : MT} (h : pTm m = some t) : okT m t = true := by
  unfold pTm at h
  split at h
  · rename_i r hr
    have k := List.all_eq_true.mp (List.all_eq_true.mp ok_all r (nth_in hr)) _ (fnd_in h)
    exact k
  · cases h
theorem pI_ok {m pc : Nat} {t : MT} {e : E6} (ht : okT m t = true) (h : pI t pc = some e) : decode (mC m) pc = .ok (e.1, e.2.1) ∧ okH m e.1 e.2.2.1 e.2.2.2.1 e.2.2.2.2.1 e.2.2.2.2.2 = true := by
  unfold pI at h
  split at h
  · rename_i r hr
    have k := List.all_eq_true.mp (List.all_eq_true.mp ht r (nth_in hr)) _ (fnd_in h)
    have k := Bool.and_eq_true_iff.mp k
    refine ⟨?_, k.2⟩
    have k1 := k.1
    simp only at k1
    split at k1
    · rename_i q hq
      rw [hq, of_decide_eq_true k1]
    · cases k1
  · cases h
