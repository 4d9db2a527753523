/-! ===== feed: append told to the last bit; text leaves no tape ===== -/
/-- append -/
def kc_ap : Con := (60, [(2, none, 187, 0, 1), (0, (some (0, 255)), 0, 0, 0)], [(47873, (some (0, 59)))], [], [], [(187, 1, 1), (188, 0, 59)], [(none, [(47873, .inr ([((3, 2), 1)], 1))], [], [])])
set_option maxRecDepth 1000000 in
theorem kk_ap : chkC [] (mkT []) 3000 kc_ap = true := by decide +kernel
theorem ko_ap {z : Int → Int} (hz : zOK z) : conOK z kc_ap := chk_ok hz (K := []) (fun _ h => absurd h List.not_mem_nil) kk_ap
/-- yX7_text -/
def kc_tx : Con := (111, [(2, none, 0, 0, 1)], [], [], [], [(1, 2, 3), (4, 0, 6), (5, 0, 6), (6, 0, 6), (7, 0, 6), (8, 0, 6), (9, 0, 6), (10, 0, 6), (11, 0, 8), (12, 0, 8), (13, 0, 8), (14, 0, 8), (15, 0, 8), (16, 0, 8), (17, 0, 8), (118, 5, 6), (119, 0, 6), (121, 0, 6), (122, 0, 6), (123, 0, 6), (124, 0, 6), (125, 0, 6), (126, 0, 6), (127, 0, 6), (128, 0, 6), (129, 0, 6), (148, 4, 5), (149, 0, 27), (150, 0, 27), (151, 0, 27), (152, 0, 27), (153, 4, 5), (154, 0, 27), (155, 0, 27), (156, 0, 27), (157, 0, 27), (158, 4, 5), (159, 0, 27), (160, 0, 27), (161, 0, 27), (162, 0, 27), (163, 4, 5), (164, 0, 27), (165, 0, 27), (166, 0, 27), (167, 0, 27), (168, 4, 5), (169, 0, 27), (170, 0, 27), (171, 0, 27), (172, 0, 27), (173, 4, 5), (174, 0, 27), (175, 0, 27), (176, 0, 27), (177, 0, 27), (178, 4, 5), (179, 0, 27), (180, 0, 27), (181, 0, 27), (182, 0, 27), (183, 0, 127), (187, 1, 1), (187, 4, 8), (189, 0, 12), (191, 0, 4), (192, 0, 4), (193, 0, 4), (194, 0, 4), (195, 0, 4), (196, 0, 4), (197, 0, 4), (198, 0, 4), (199, 0, 4), (200, 0, 4), (201, 0, 4), (202, 0, 4), (203, 0, 4)], [((some (0, none)), [(47873, .inr ([], 0))], [], [])])
set_option maxRecDepth 1000000 in
theorem kk_tx : chkC [kc_236, kc_78, kc_10, kc_25, kc_27] (mkT kt_237) 3000 kc_tx = true := by decide +kernel
theorem ko_tx {z : Int → Int} (hz : zOK z) : conOK z kc_tx := chk_ok hz (K := [kc_236, kc_78, kc_10, kc_25, kc_27]) (List.forall_mem_cons.mpr ⟨ko_236 hz, List.forall_mem_cons.mpr ⟨ko_78 hz, List.forall_mem_cons.mpr ⟨ko_10 hz, List.forall_mem_cons.mpr ⟨ko_25 hz, List.forall_mem_cons.mpr ⟨ko_27 hz, fun _ h => absurd h List.not_mem_nil⟩⟩⟩⟩⟩) kk_tx
/-- yX8_text -/
def kc_tm : Con := (194, [(2, none, 213, 0, 1)], [], [], [], [(213, 9, 14), (213, 22, 25), (214, 0, 8), (214, 10, 16), (214, 18, 24), (214, 26, 32), (214, 34, 40), (214, 42, 48), (214, 50, 56), (214, 58, 64), (214, 66, 72), (216, 0, 7), (217, 0, 63), (218, 0, 31), (219, 0, 31), (220, 0, 62), (221, 0, 62), (225, 0, 4)], [((some (0, none)), [(54550, .inr ([], 0))], [], [])])
set_option maxRecDepth 1000000 in
theorem kj_tm : chkCI [kc_242] (mkT kt_243) 3000 kc_tm = true := by decide +kernel
theorem ki_tm {z : Int → Int} (hz : zOK z) : conI RF z kc_tm := chkI_ok hz (K := [kc_242]) (List.forall_mem_cons.mpr ⟨ki_242 hz, fun _ h => absurd h List.not_mem_nil⟩) kj_tm
