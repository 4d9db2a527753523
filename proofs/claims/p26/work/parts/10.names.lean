-- ===== PART A: goes FIRST, ahead of the names: the tables' words, and 'selects' of the private methods out of them =====
/-- a private method of a class that the tables say can be made, by its rows of tables_1 -/
def lw_okq (q : MethodName × Nat) : Prop := (q.1.cls ≠ "java/lang/invoke/MethodHandle" ∧ q.1.cls ≠ "java/lang/invoke/VarHandle") ∧ Cond.instantiable q.1.cls q.2 ∈ tables_1 ∧ Cond.privateMethod q.1 ∈ tables_1 ∧ Cond.instanceMethod q.1 ∈ tables_1
theorem lw_p0 : lw_okq (⟨"PileSteadier$Pile", "greatestTopUnder", "(LPileSteadier$Box;)I"⟩, 4) := ⟨⟨by decide +kernel, by decide +kernel⟩, List.mem_of_getElem? (i := 27) (by decide +kernel), List.mem_of_getElem? (i := 305) (by decide +kernel), List.mem_of_getElem? (i := 306) (by decide +kernel)⟩
theorem lw_p1 : lw_okq (⟨"PileSteadier$Pile", "noteContacts", "(I)V"⟩, 4) := ⟨⟨by decide +kernel, by decide +kernel⟩, List.mem_of_getElem? (i := 27) (by decide +kernel), List.mem_of_getElem? (i := 339) (by decide +kernel), List.mem_of_getElem? (i := 340) (by decide +kernel)⟩
theorem lw_p2 : lw_okq (⟨"PileSteadier$Balance", "handDown", "(I)V"⟩, 7) := ⟨⟨by decide +kernel, by decide +kernel⟩, List.mem_of_getElem? (i := 108) (by decide +kernel), List.mem_of_getElem? (i := 435) (by decide +kernel), List.mem_of_getElem? (i := 436) (by decide +kernel)⟩
theorem lw_p3 : lw_okq (⟨"PileSteadier$Balance", "takeOn", "(II)V"⟩, 7) := ⟨⟨by decide +kernel, by decide +kernel⟩, List.mem_of_getElem? (i := 108) (by decide +kernel), List.mem_of_getElem? (i := 447) (by decide +kernel), List.mem_of_getElem? (i := 448) (by decide +kernel)⟩
theorem lw_p4 : lw_okq (⟨"PileSteadier$Balance", "outline", "(I)V"⟩, 7) := ⟨⟨by decide +kernel, by decide +kernel⟩, List.mem_of_getElem? (i := 108) (by decide +kernel), List.mem_of_getElem? (i := 456) (by decide +kernel), List.mem_of_getElem? (i := 457) (by decide +kernel)⟩
theorem lw_p5 : lw_okq (⟨"PileSteadier$Polygon", "nextRound", "(I)I"⟩, 6) := ⟨⟨by decide +kernel, by decide +kernel⟩, List.mem_of_getElem? (i := 118) (by decide +kernel), List.mem_of_getElem? (i := 480) (by decide +kernel), List.mem_of_getElem? (i := 481) (by decide +kernel)⟩
theorem lw_p6 : lw_okq (⟨"PileSteadier", "isBoxAndOther", "(II)Z"⟩, 8) := ⟨⟨by decide +kernel, by decide +kernel⟩, List.mem_of_getElem? (i := 19) (by decide +kernel), List.mem_of_getElem? (i := 520) (by decide +kernel), List.mem_of_getElem? (i := 521) (by decide +kernel)⟩
theorem lw_p7 : lw_okq (⟨"PileSteadier", "settle", "()V"⟩, 8) := ⟨⟨by decide +kernel, by decide +kernel⟩, List.mem_of_getElem? (i := 19) (by decide +kernel), List.mem_of_getElem? (i := 533) (by decide +kernel), List.mem_of_getElem? (i := 534) (by decide +kernel)⟩
theorem lw_p8 : lw_okq (⟨"PileSteadier$Door", "findFree", "(LPileSteadier$Pile;)V"⟩, 5) := ⟨⟨by decide +kernel, by decide +kernel⟩, List.mem_of_getElem? (i := 175) (by decide +kernel), List.mem_of_getElem? (i := 623) (by decide +kernel), List.mem_of_getElem? (i := 624) (by decide +kernel)⟩
theorem lw_p9 : lw_okq (⟨"PileSteadier$Door", "findFirst", "(I)V"⟩, 5) := ⟨⟨by decide +kernel, by decide +kernel⟩, List.mem_of_getElem? (i := 175) (by decide +kernel), List.mem_of_getElem? (i := 628) (by decide +kernel), List.mem_of_getElem? (i := 629) (by decide +kernel)⟩
theorem lw_p10 : lw_okq (⟨"PileSteadier", "wouldStandAt", "(III)Z"⟩, 8) := ⟨⟨by decide +kernel, by decide +kernel⟩, List.mem_of_getElem? (i := 19) (by decide +kernel), List.mem_of_getElem? (i := 641) (by decide +kernel), List.mem_of_getElem? (i := 642) (by decide +kernel)⟩
theorem lw_p11 : lw_okq (⟨"PileSteadier", "firstFailingBump", "(II)I"⟩, 8) := ⟨⟨by decide +kernel, by decide +kernel⟩, List.mem_of_getElem? (i := 19) (by decide +kernel), List.mem_of_getElem? (i := 660) (by decide +kernel), List.mem_of_getElem? (i := 661) (by decide +kernel)⟩
theorem lw_p12 : lw_okq (⟨"PileSteadier$Tape", "readClause", "()Z"⟩, 9) := ⟨⟨by decide +kernel, by decide +kernel⟩, List.mem_of_getElem? (i := 200) (by decide +kernel), List.mem_of_getElem? (i := 691) (by decide +kernel), List.mem_of_getElem? (i := 692) (by decide +kernel)⟩
theorem lw_p13 : lw_okq (⟨"PileSteadier$Tape", "step", "()V"⟩, 9) := ⟨⟨by decide +kernel, by decide +kernel⟩, List.mem_of_getElem? (i := 200) (by decide +kernel), List.mem_of_getElem? (i := 695) (by decide +kernel), List.mem_of_getElem? (i := 696) (by decide +kernel)⟩
theorem lw_p14 : lw_okq (⟨"PileSteadier$Tape", "readWord", "()V"⟩, 9) := ⟨⟨by decide +kernel, by decide +kernel⟩, List.mem_of_getElem? (i := 200) (by decide +kernel), List.mem_of_getElem? (i := 702) (by decide +kernel), List.mem_of_getElem? (i := 703) (by decide +kernel)⟩
theorem lw_p15 : lw_okq (⟨"PileSteadier$Tape", "isWord", "(Ljava/lang/String;)Z"⟩, 9) := ⟨⟨by decide +kernel, by decide +kernel⟩, List.mem_of_getElem? (i := 200) (by decide +kernel), List.mem_of_getElem? (i := 707) (by decide +kernel), List.mem_of_getElem? (i := 708) (by decide +kernel)⟩
def lw_privs_1 : List (MethodName × Nat) := [(⟨"PileSteadier$Pile", "greatestTopUnder", "(LPileSteadier$Box;)I"⟩, 4), (⟨"PileSteadier$Pile", "noteContacts", "(I)V"⟩, 4), (⟨"PileSteadier$Balance", "handDown", "(I)V"⟩, 7), (⟨"PileSteadier$Balance", "takeOn", "(II)V"⟩, 7), (⟨"PileSteadier$Balance", "outline", "(I)V"⟩, 7), (⟨"PileSteadier$Polygon", "nextRound", "(I)I"⟩, 6), (⟨"PileSteadier", "isBoxAndOther", "(II)Z"⟩, 8), (⟨"PileSteadier", "settle", "()V"⟩, 8), (⟨"PileSteadier$Door", "findFree", "(LPileSteadier$Pile;)V"⟩, 5), (⟨"PileSteadier$Door", "findFirst", "(I)V"⟩, 5), (⟨"PileSteadier", "wouldStandAt", "(III)Z"⟩, 8), (⟨"PileSteadier", "firstFailingBump", "(II)I"⟩, 8), (⟨"PileSteadier$Tape", "readClause", "()Z"⟩, 9), (⟨"PileSteadier$Tape", "step", "()V"⟩, 9), (⟨"PileSteadier$Tape", "readWord", "()V"⟩, 9), (⟨"PileSteadier$Tape", "isWord", "(Ljava/lang/String;)Z"⟩, 9)]
theorem lw_r1 : ∀ q ∈ lw_privs_1, lw_okq q := List.forall_mem_cons.mpr ⟨lw_p0, List.forall_mem_cons.mpr ⟨lw_p1, List.forall_mem_cons.mpr ⟨lw_p2, List.forall_mem_cons.mpr ⟨lw_p3, List.forall_mem_cons.mpr ⟨lw_p4, List.forall_mem_cons.mpr ⟨lw_p5, List.forall_mem_cons.mpr ⟨lw_p6, List.forall_mem_cons.mpr ⟨lw_p7, List.forall_mem_cons.mpr ⟨lw_p8, List.forall_mem_cons.mpr ⟨lw_p9, List.forall_mem_cons.mpr ⟨lw_p10, List.forall_mem_cons.mpr ⟨lw_p11, List.forall_mem_cons.mpr ⟨lw_p12, List.forall_mem_cons.mpr ⟨lw_p13, List.forall_mem_cons.mpr ⟨lw_p14, List.forall_mem_cons.mpr ⟨lw_p15, fun _ h => absurd h List.not_mem_nil⟩⟩⟩⟩⟩⟩⟩⟩⟩⟩⟩⟩⟩⟩⟩⟩
theorem lw_p16 : lw_okq (⟨"PileSteadier$Tape", "readNumber", "()V"⟩, 9) := ⟨⟨by decide +kernel, by decide +kernel⟩, List.mem_of_getElem? (i := 200) (by decide +kernel), List.mem_of_getElem? (i := 765) (by decide +kernel), List.mem_of_getElem? (i := 766) (by decide +kernel)⟩
theorem lw_p17 : lw_okq (⟨"PileSteadier", "standingKinds", "(I)I"⟩, 8) := ⟨⟨by decide +kernel, by decide +kernel⟩, List.mem_of_getElem? (i := 19) (by decide +kernel), List.mem_of_getElem? (i := 780) (by decide +kernel), List.mem_of_getElem? (i := 781) (by decide +kernel)⟩
theorem lw_p18 : lw_okq (⟨"PileSteadierModel", "lays", "(IIIIII)V"⟩, 32) := ⟨⟨by decide +kernel, by decide +kernel⟩, List.mem_of_getElem? (i := 849) (by decide +kernel), List.mem_of_getElem? (i := 963) (by decide +kernel), List.mem_of_getElem? (i := 964) (by decide +kernel)⟩
theorem lw_p19 : lw_okq (⟨"PileSteadierModel", "there", "()I"⟩, 32) := ⟨⟨by decide +kernel, by decide +kernel⟩, List.mem_of_getElem? (i := 849) (by decide +kernel), List.mem_of_getElem? (i := 967) (by decide +kernel), List.mem_of_getElem? (i := 968) (by decide +kernel)⟩
theorem lw_p20 : lw_okq (⟨"PileSteadierModel", "overlap", "(II)I"⟩, 32) := ⟨⟨by decide +kernel, by decide +kernel⟩, List.mem_of_getElem? (i := 849) (by decide +kernel), List.mem_of_getElem? (i := 974) (by decide +kernel), List.mem_of_getElem? (i := 975) (by decide +kernel)⟩
theorem lw_p21 : lw_okq (⟨"PileSteadierModel", "alongX", "(II)I"⟩, 32) := ⟨⟨by decide +kernel, by decide +kernel⟩, List.mem_of_getElem? (i := 849) (by decide +kernel), List.mem_of_getElem? (i := 978) (by decide +kernel), List.mem_of_getElem? (i := 979) (by decide +kernel)⟩
theorem lw_p22 : lw_okq (⟨"PileSteadierModel", "alongY", "(II)I"⟩, 32) := ⟨⟨by decide +kernel, by decide +kernel⟩, List.mem_of_getElem? (i := 849) (by decide +kernel), List.mem_of_getElem? (i := 985) (by decide +kernel), List.mem_of_getElem? (i := 986) (by decide +kernel)⟩
theorem lw_p23 : lw_okq (⟨"PileSteadierModel", "top", "(I)I"⟩, 32) := ⟨⟨by decide +kernel, by decide +kernel⟩, List.mem_of_getElem? (i := 849) (by decide +kernel), List.mem_of_getElem? (i := 989) (by decide +kernel), List.mem_of_getElem? (i := 990) (by decide +kernel)⟩
theorem lw_p24 : lw_okq (⟨"PileSteadierModel", "isBox", "(I)Z"⟩, 32) := ⟨⟨by decide +kernel, by decide +kernel⟩, List.mem_of_getElem? (i := 849) (by decide +kernel), List.mem_of_getElem? (i := 1000) (by decide +kernel), List.mem_of_getElem? (i := 1001) (by decide +kernel)⟩
theorem lw_p25 : lw_okq (⟨"PileSteadierModel", "isThere", "(I)Z"⟩, 32) := ⟨⟨by decide +kernel, by decide +kernel⟩, List.mem_of_getElem? (i := 849) (by decide +kernel), List.mem_of_getElem? (i := 1014) (by decide +kernel), List.mem_of_getElem? (i := 1015) (by decide +kernel)⟩
theorem lw_p26 : lw_okq (⟨"PileSteadierModel", "isFree", "(II)Z"⟩, 32) := ⟨⟨by decide +kernel, by decide +kernel⟩, List.mem_of_getElem? (i := 849) (by decide +kernel), List.mem_of_getElem? (i := 1034) (by decide +kernel), List.mem_of_getElem? (i := 1035) (by decide +kernel)⟩
theorem lw_p27 : lw_okq (⟨"PileSteadierModel", "restingOn", "(II)I"⟩, 32) := ⟨⟨by decide +kernel, by decide +kernel⟩, List.mem_of_getElem? (i := 849) (by decide +kernel), List.mem_of_getElem? (i := 1038) (by decide +kernel), List.mem_of_getElem? (i := 1039) (by decide +kernel)⟩
theorem lw_p28 : lw_okq (⟨"PileSteadierModel", "contactOf", "(II)I"⟩, 32) := ⟨⟨by decide +kernel, by decide +kernel⟩, List.mem_of_getElem? (i := 849) (by decide +kernel), List.mem_of_getElem? (i := 1042) (by decide +kernel), List.mem_of_getElem? (i := 1043) (by decide +kernel)⟩
theorem lw_p29 : lw_okq (⟨"PileSteadierModel", "inWay", "(II)I"⟩, 32) := ⟨⟨by decide +kernel, by decide +kernel⟩, List.mem_of_getElem? (i := 849) (by decide +kernel), List.mem_of_getElem? (i := 1046) (by decide +kernel), List.mem_of_getElem? (i := 1047) (by decide +kernel)⟩
theorem lw_p30 : lw_okq (⟨"PileSteadierModel", "inHeight", "(II)I"⟩, 32) := ⟨⟨by decide +kernel, by decide +kernel⟩, List.mem_of_getElem? (i := 849) (by decide +kernel), List.mem_of_getElem? (i := 1050) (by decide +kernel), List.mem_of_getElem? (i := 1051) (by decide +kernel)⟩
theorem lw_p31 : lw_okq (⟨"PileSteadierModel", "failing", "(III)I"⟩, 32) := ⟨⟨by decide +kernel, by decide +kernel⟩, List.mem_of_getElem? (i := 849) (by decide +kernel), List.mem_of_getElem? (i := 1054) (by decide +kernel), List.mem_of_getElem? (i := 1055) (by decide +kernel)⟩
def lw_privs_2 : List (MethodName × Nat) := [(⟨"PileSteadier$Tape", "readNumber", "()V"⟩, 9), (⟨"PileSteadier", "standingKinds", "(I)I"⟩, 8), (⟨"PileSteadierModel", "lays", "(IIIIII)V"⟩, 32), (⟨"PileSteadierModel", "there", "()I"⟩, 32), (⟨"PileSteadierModel", "overlap", "(II)I"⟩, 32), (⟨"PileSteadierModel", "alongX", "(II)I"⟩, 32), (⟨"PileSteadierModel", "alongY", "(II)I"⟩, 32), (⟨"PileSteadierModel", "top", "(I)I"⟩, 32), (⟨"PileSteadierModel", "isBox", "(I)Z"⟩, 32), (⟨"PileSteadierModel", "isThere", "(I)Z"⟩, 32), (⟨"PileSteadierModel", "isFree", "(II)Z"⟩, 32), (⟨"PileSteadierModel", "restingOn", "(II)I"⟩, 32), (⟨"PileSteadierModel", "contactOf", "(II)I"⟩, 32), (⟨"PileSteadierModel", "inWay", "(II)I"⟩, 32), (⟨"PileSteadierModel", "inHeight", "(II)I"⟩, 32), (⟨"PileSteadierModel", "failing", "(III)I"⟩, 32)]
theorem lw_r2 : ∀ q ∈ lw_privs_2, lw_okq q := List.forall_mem_cons.mpr ⟨lw_p16, List.forall_mem_cons.mpr ⟨lw_p17, List.forall_mem_cons.mpr ⟨lw_p18, List.forall_mem_cons.mpr ⟨lw_p19, List.forall_mem_cons.mpr ⟨lw_p20, List.forall_mem_cons.mpr ⟨lw_p21, List.forall_mem_cons.mpr ⟨lw_p22, List.forall_mem_cons.mpr ⟨lw_p23, List.forall_mem_cons.mpr ⟨lw_p24, List.forall_mem_cons.mpr ⟨lw_p25, List.forall_mem_cons.mpr ⟨lw_p26, List.forall_mem_cons.mpr ⟨lw_p27, List.forall_mem_cons.mpr ⟨lw_p28, List.forall_mem_cons.mpr ⟨lw_p29, List.forall_mem_cons.mpr ⟨lw_p30, List.forall_mem_cons.mpr ⟨lw_p31, fun _ h => absurd h List.not_mem_nil⟩⟩⟩⟩⟩⟩⟩⟩⟩⟩⟩⟩⟩⟩⟩⟩
theorem lw_p32 : lw_okq (⟨"PileSteadierModel", "loadAll", "(I)V"⟩, 32) := ⟨⟨by decide +kernel, by decide +kernel⟩, List.mem_of_getElem? (i := 849) (by decide +kernel), List.mem_of_getElem? (i := 1058) (by decide +kernel), List.mem_of_getElem? (i := 1059) (by decide +kernel)⟩
theorem lw_p33 : lw_okq (⟨"PileSteadierModel", "handsDown", "(II)V"⟩, 32) := ⟨⟨by decide +kernel, by decide +kernel⟩, List.mem_of_getElem? (i := 849) (by decide +kernel), List.mem_of_getElem? (i := 1062) (by decide +kernel), List.mem_of_getElem? (i := 1063) (by decide +kernel)⟩
theorem lw_p34 : lw_okq (⟨"PileSteadierModel", "isHeld", "(II)Z"⟩, 32) := ⟨⟨by decide +kernel, by decide +kernel⟩, List.mem_of_getElem? (i := 849) (by decide +kernel), List.mem_of_getElem? (i := 1066) (by decide +kernel), List.mem_of_getElem? (i := 1067) (by decide +kernel)⟩
theorem lw_p35 : lw_okq (⟨"PileSteadierModel", "liesOf", "(IIII)I"⟩, 32) := ⟨⟨by decide +kernel, by decide +kernel⟩, List.mem_of_getElem? (i := 849) (by decide +kernel), List.mem_of_getElem? (i := 1070) (by decide +kernel), List.mem_of_getElem? (i := 1071) (by decide +kernel)⟩
theorem lw_p36 : lw_okq (⟨"PileSteadierModel", "findPolygon", "(II)V"⟩, 32) := ⟨⟨by decide +kernel, by decide +kernel⟩, List.mem_of_getElem? (i := 849) (by decide +kernel), List.mem_of_getElem? (i := 1074) (by decide +kernel), List.mem_of_getElem? (i := 1075) (by decide +kernel)⟩
theorem lw_p37 : lw_okq (⟨"PileSteadierModel", "rectangle", "(IIII)V"⟩, 32) := ⟨⟨by decide +kernel, by decide +kernel⟩, List.mem_of_getElem? (i := 849) (by decide +kernel), List.mem_of_getElem? (i := 1078) (by decide +kernel), List.mem_of_getElem? (i := 1079) (by decide +kernel)⟩
theorem lw_p38 : lw_okq (⟨"PileSteadierModel", "point", "(II)V"⟩, 32) := ⟨⟨by decide +kernel, by decide +kernel⟩, List.mem_of_getElem? (i := 849) (by decide +kernel), List.mem_of_getElem? (i := 1082) (by decide +kernel), List.mem_of_getElem? (i := 1083) (by decide +kernel)⟩
theorem lw_p39 : lw_okq (⟨"PileSteadierModel", "turns", "(III)V"⟩, 32) := ⟨⟨by decide +kernel, by decide +kernel⟩, List.mem_of_getElem? (i := 849) (by decide +kernel), List.mem_of_getElem? (i := 1089) (by decide +kernel), List.mem_of_getElem? (i := 1090) (by decide +kernel)⟩
theorem lw_p40 : lw_okq (⟨"PileSteadierModel", "cross", "(IIII)I"⟩, 32) := ⟨⟨by decide +kernel, by decide +kernel⟩, List.mem_of_getElem? (i := 849) (by decide +kernel), List.mem_of_getElem? (i := 1093) (by decide +kernel), List.mem_of_getElem? (i := 1094) (by decide +kernel)⟩
theorem lw_p41 : lw_okq (⟨"PileSteadierModel", "centreOf", "(III)I"⟩, 32) := ⟨⟨by decide +kernel, by decide +kernel⟩, List.mem_of_getElem? (i := 849) (by decide +kernel), List.mem_of_getElem? (i := 1098) (by decide +kernel), List.mem_of_getElem? (i := 1099) (by decide +kernel)⟩
theorem lw_p42 : lw_okq (⟨"PileSteadierModel", "liesAt", "(JJJ)I"⟩, 32) := ⟨⟨by decide +kernel, by decide +kernel⟩, List.mem_of_getElem? (i := 849) (by decide +kernel), List.mem_of_getElem? (i := 1104) (by decide +kernel), List.mem_of_getElem? (i := 1105) (by decide +kernel)⟩
theorem lw_p43 : lw_okq (⟨"PileSteadierModel", "below", "(I)I"⟩, 32) := ⟨⟨by decide +kernel, by decide +kernel⟩, List.mem_of_getElem? (i := 849) (by decide +kernel), List.mem_of_getElem? (i := 1118) (by decide +kernel), List.mem_of_getElem? (i := 1119) (by decide +kernel)⟩
theorem lw_p44 : lw_okq (⟨"PileSteadierModel", "causeOf", "(I)I"⟩, 32) := ⟨⟨by decide +kernel, by decide +kernel⟩, List.mem_of_getElem? (i := 849) (by decide +kernel), List.mem_of_getElem? (i := 1165) (by decide +kernel), List.mem_of_getElem? (i := 1166) (by decide +kernel)⟩
theorem lw_p45 : lw_okq (⟨"PileSteadierModel", "findLine", "()V"⟩, 32) := ⟨⟨by decide +kernel, by decide +kernel⟩, List.mem_of_getElem? (i := 849) (by decide +kernel), List.mem_of_getElem? (i := 1189) (by decide +kernel), List.mem_of_getElem? (i := 1190) (by decide +kernel)⟩
theorem lw_p46 : lw_okq (⟨"PileSteadierModel", "findWays", "()V"⟩, 32) := ⟨⟨by decide +kernel, by decide +kernel⟩, List.mem_of_getElem? (i := 849) (by decide +kernel), List.mem_of_getElem? (i := 1193) (by decide +kernel), List.mem_of_getElem? (i := 1194) (by decide +kernel)⟩
theorem lw_p47 : lw_okq (⟨"PileSteadierModel", "canCome", "(IIII)Z"⟩, 32) := ⟨⟨by decide +kernel, by decide +kernel⟩, List.mem_of_getElem? (i := 849) (by decide +kernel), List.mem_of_getElem? (i := 1205) (by decide +kernel), List.mem_of_getElem? (i := 1206) (by decide +kernel)⟩
def lw_privs_3 : List (MethodName × Nat) := [(⟨"PileSteadierModel", "loadAll", "(I)V"⟩, 32), (⟨"PileSteadierModel", "handsDown", "(II)V"⟩, 32), (⟨"PileSteadierModel", "isHeld", "(II)Z"⟩, 32), (⟨"PileSteadierModel", "liesOf", "(IIII)I"⟩, 32), (⟨"PileSteadierModel", "findPolygon", "(II)V"⟩, 32), (⟨"PileSteadierModel", "rectangle", "(IIII)V"⟩, 32), (⟨"PileSteadierModel", "point", "(II)V"⟩, 32), (⟨"PileSteadierModel", "turns", "(III)V"⟩, 32), (⟨"PileSteadierModel", "cross", "(IIII)I"⟩, 32), (⟨"PileSteadierModel", "centreOf", "(III)I"⟩, 32), (⟨"PileSteadierModel", "liesAt", "(JJJ)I"⟩, 32), (⟨"PileSteadierModel", "below", "(I)I"⟩, 32), (⟨"PileSteadierModel", "causeOf", "(I)I"⟩, 32), (⟨"PileSteadierModel", "findLine", "()V"⟩, 32), (⟨"PileSteadierModel", "findWays", "()V"⟩, 32), (⟨"PileSteadierModel", "canCome", "(IIII)Z"⟩, 32)]
theorem lw_r3 : ∀ q ∈ lw_privs_3, lw_okq q := List.forall_mem_cons.mpr ⟨lw_p32, List.forall_mem_cons.mpr ⟨lw_p33, List.forall_mem_cons.mpr ⟨lw_p34, List.forall_mem_cons.mpr ⟨lw_p35, List.forall_mem_cons.mpr ⟨lw_p36, List.forall_mem_cons.mpr ⟨lw_p37, List.forall_mem_cons.mpr ⟨lw_p38, List.forall_mem_cons.mpr ⟨lw_p39, List.forall_mem_cons.mpr ⟨lw_p40, List.forall_mem_cons.mpr ⟨lw_p41, List.forall_mem_cons.mpr ⟨lw_p42, List.forall_mem_cons.mpr ⟨lw_p43, List.forall_mem_cons.mpr ⟨lw_p44, List.forall_mem_cons.mpr ⟨lw_p45, List.forall_mem_cons.mpr ⟨lw_p46, List.forall_mem_cons.mpr ⟨lw_p47, fun _ h => absurd h List.not_mem_nil⟩⟩⟩⟩⟩⟩⟩⟩⟩⟩⟩⟩⟩⟩⟩⟩
theorem lw_p48 : lw_okq (⟨"PileSteadierModel", "bumped", "(II)I"⟩, 32) := ⟨⟨by decide +kernel, by decide +kernel⟩, List.mem_of_getElem? (i := 849) (by decide +kernel), List.mem_of_getElem? (i := 1213) (by decide +kernel), List.mem_of_getElem? (i := 1214) (by decide +kernel)⟩
theorem lw_p49 : lw_okq (⟨"PileSteadierModel", "reads", "(Z)I"⟩, 32) := ⟨⟨by decide +kernel, by decide +kernel⟩, List.mem_of_getElem? (i := 849) (by decide +kernel), List.mem_of_getElem? (i := 1230) (by decide +kernel), List.mem_of_getElem? (i := 1231) (by decide +kernel)⟩
theorem lw_p50 : lw_okq (⟨"PileSteadierModel", "clause", "()I"⟩, 32) := ⟨⟨by decide +kernel, by decide +kernel⟩, List.mem_of_getElem? (i := 849) (by decide +kernel), List.mem_of_getElem? (i := 1234) (by decide +kernel), List.mem_of_getElem? (i := 1235) (by decide +kernel)⟩
theorem lw_p51 : lw_okq (⟨"PileSteadierModel", "token", "()I"⟩, 32) := ⟨⟨by decide +kernel, by decide +kernel⟩, List.mem_of_getElem? (i := 849) (by decide +kernel), List.mem_of_getElem? (i := 1238) (by decide +kernel), List.mem_of_getElem? (i := 1239) (by decide +kernel)⟩
theorem lw_p52 : lw_okq (⟨"PileSteadierModel", "isSort", "(II)Z"⟩, 32) := ⟨⟨by decide +kernel, by decide +kernel⟩, List.mem_of_getElem? (i := 849) (by decide +kernel), List.mem_of_getElem? (i := 1242) (by decide +kernel), List.mem_of_getElem? (i := 1243) (by decide +kernel)⟩
theorem lw_p53 : lw_okq (⟨"PileSteadierModel", "wordOf", "()I"⟩, 32) := ⟨⟨by decide +kernel, by decide +kernel⟩, List.mem_of_getElem? (i := 849) (by decide +kernel), List.mem_of_getElem? (i := 1246) (by decide +kernel), List.mem_of_getElem? (i := 1247) (by decide +kernel)⟩
theorem lw_p54 : lw_okq (⟨"PileSteadierModel", "isDone", "(I)Z"⟩, 32) := ⟨⟨by decide +kernel, by decide +kernel⟩, List.mem_of_getElem? (i := 849) (by decide +kernel), List.mem_of_getElem? (i := 1250) (by decide +kernel), List.mem_of_getElem? (i := 1251) (by decide +kernel)⟩
theorem lw_p55 : lw_okq (⟨"PileSteadierModel", "kindsOf", "(I)I"⟩, 32) := ⟨⟨by decide +kernel, by decide +kernel⟩, List.mem_of_getElem? (i := 849) (by decide +kernel), List.mem_of_getElem? (i := 1262) (by decide +kernel), List.mem_of_getElem? (i := 1263) (by decide +kernel)⟩
theorem lw_p56 : lw_okq (⟨"PileSteadierModel", "judges", "(I)V"⟩, 32) := ⟨⟨by decide +kernel, by decide +kernel⟩, List.mem_of_getElem? (i := 849) (by decide +kernel), List.mem_of_getElem? (i := 1269) (by decide +kernel), List.mem_of_getElem? (i := 1270) (by decide +kernel)⟩
theorem lw_p57 : lw_okq (⟨"PileSteadierModel", "weights", "()I"⟩, 32) := ⟨⟨by decide +kernel, by decide +kernel⟩, List.mem_of_getElem? (i := 849) (by decide +kernel), List.mem_of_getElem? (i := 1294) (by decide +kernel), List.mem_of_getElem? (i := 1295) (by decide +kernel)⟩
theorem lw_p58 : lw_okq (⟨"PileSteadierModel", "twos", "()I"⟩, 32) := ⟨⟨by decide +kernel, by decide +kernel⟩, List.mem_of_getElem? (i := 849) (by decide +kernel), List.mem_of_getElem? (i := 1298) (by decide +kernel), List.mem_of_getElem? (i := 1299) (by decide +kernel)⟩
theorem lw_p59 : lw_okq (⟨"PileSteadierModel", "toFloor", "()I"⟩, 32) := ⟨⟨by decide +kernel, by decide +kernel⟩, List.mem_of_getElem? (i := 849) (by decide +kernel), List.mem_of_getElem? (i := 1302) (by decide +kernel), List.mem_of_getElem? (i := 1303) (by decide +kernel)⟩
def lw_privs_4 : List (MethodName × Nat) := [(⟨"PileSteadierModel", "bumped", "(II)I"⟩, 32), (⟨"PileSteadierModel", "reads", "(Z)I"⟩, 32), (⟨"PileSteadierModel", "clause", "()I"⟩, 32), (⟨"PileSteadierModel", "token", "()I"⟩, 32), (⟨"PileSteadierModel", "isSort", "(II)Z"⟩, 32), (⟨"PileSteadierModel", "wordOf", "()I"⟩, 32), (⟨"PileSteadierModel", "isDone", "(I)Z"⟩, 32), (⟨"PileSteadierModel", "kindsOf", "(I)I"⟩, 32), (⟨"PileSteadierModel", "judges", "(I)V"⟩, 32), (⟨"PileSteadierModel", "weights", "()I"⟩, 32), (⟨"PileSteadierModel", "twos", "()I"⟩, 32), (⟨"PileSteadierModel", "toFloor", "()I"⟩, 32)]
theorem lw_r4 : ∀ q ∈ lw_privs_4, lw_okq q := List.forall_mem_cons.mpr ⟨lw_p48, List.forall_mem_cons.mpr ⟨lw_p49, List.forall_mem_cons.mpr ⟨lw_p50, List.forall_mem_cons.mpr ⟨lw_p51, List.forall_mem_cons.mpr ⟨lw_p52, List.forall_mem_cons.mpr ⟨lw_p53, List.forall_mem_cons.mpr ⟨lw_p54, List.forall_mem_cons.mpr ⟨lw_p55, List.forall_mem_cons.mpr ⟨lw_p56, List.forall_mem_cons.mpr ⟨lw_p57, List.forall_mem_cons.mpr ⟨lw_p58, List.forall_mem_cons.mpr ⟨lw_p59, fun _ h => absurd h List.not_mem_nil⟩⟩⟩⟩⟩⟩⟩⟩⟩⟩⟩⟩
def lw_privs : List (MethodName × Nat) := lw_privs_1 ++ (lw_privs_2 ++ (lw_privs_3 ++ (lw_privs_4)))
def lw_tbl : List Cond := k2_sels lw_privs ++ tables_1
theorem lw_privs_ok : ∀ q ∈ lw_privs, lw_okq q := by
  show ∀ q ∈ lw_privs_1 ++ (lw_privs_2 ++ (lw_privs_3 ++ (lw_privs_4))), lw_okq q
  exact List.forall_mem_append.mpr ⟨lw_r1, List.forall_mem_append.mpr ⟨lw_r2, List.forall_mem_append.mpr ⟨lw_r3, lw_r4⟩⟩⟩

-- ===== names (begun from claim/NAMES.whole.lean.txt) =====
def RX0 : String := "PileSteadier$Balance"
def TX0 : u_T := fun k => match k with
  | 0 => ("PileSteadier$Balance", "loads", "[I", true)
  | 1 => ("PileSteadier$Balance", "parts", "[[I", true)
  | 2 => ("PileSteadier$Balance", "momentsX", "[J", true)
  | 3 => ("PileSteadier$Balance", "momentsY", "[J", true)
  | 4 => ("PileSteadier$Balance", "polygons", "[LPileSteadier$Polygon;", true)
  | 5 => ("PileSteadier$Balance", "pile", "LPileSteadier$Pile;", false)
  | _ => ("PileSteadier$Balance", "present", "I", false)
def tyX0 : Nat → FieldType := fun k => match k with
  | 0 => .array .int
  | 1 => .array (.array .int)
  | 2 => .array .long
  | 3 => .array .long
  | 4 => .array (.object "PileSteadier$Polygon")
  | 5 => .object "PileSteadier$Pile"
  | _ => .int
abbrev wsX00 : List Cond := u_ws RX0 TX0 7
theorem nmX0 : ∀ a, a < 7 → ∀ b, b < 7 → a ≠ b → (TX0 a).2.1 ≠ (TX0 b).2.1 := by decide +kernel
theorem tyX0_ok : ∀ k, k < 7 → parseFieldDescriptor (TX0 k).2.2.1 = some (tyX0 k) := by decide +kernel
def RX1 : String := "PileSteadier$Box"
def TX1 : u_T := fun k => match k with
  | 0 => ("PileSteadier$Box", "kind", "I", false)
  | 1 => ("PileSteadier$Box", "figure", "I", false)
  | 2 => ("PileSteadier$Box", "x", "I", false)
  | 3 => ("PileSteadier$Box", "y", "I", false)
  | 4 => ("PileSteadier$Box", "z", "I", false)
  | 5 => ("PileSteadier$Box", "w", "I", false)
  | 6 => ("PileSteadier$Box", "d", "I", false)
  | 7 => ("PileSteadier$Box", "h", "I", false)
  | _ => ("PileSteadier$Box", "weight", "I", false)
def tyX1 : Nat → FieldType := fun k => match k with
  | 0 => .int
  | 1 => .int
  | 2 => .int
  | 3 => .int
  | 4 => .int
  | 5 => .int
  | 6 => .int
  | 7 => .int
  | _ => .int
abbrev wsX10 : List Cond := u_ws RX1 TX1 9
theorem nmX1 : ∀ a, a < 9 → ∀ b, b < 9 → a ≠ b → (TX1 a).2.1 ≠ (TX1 b).2.1 := by decide +kernel
theorem tyX1_ok : ∀ k, k < 9 → parseFieldDescriptor (TX1 k).2.2.1 = some (tyX1 k) := by decide +kernel
def RX2 : String := "PileSteadier$Door"
def TX2 : u_T := fun k => match k with
  | 0 => ("PileSteadier$Door", "balance", "LPileSteadier$Balance;", true)
  | 1 => ("PileSteadier$Door", "failing", "[I", true)
  | 2 => ("PileSteadier$Door", "free", "[I", true)
  | 3 => ("PileSteadier$Door", "orders", "[I", true)
  | _ => ("PileSteadier$Door", "first", "[I", true)
def tyX2 : Nat → FieldType := fun k => match k with
  | 0 => .object "PileSteadier$Balance"
  | 1 => .array .int
  | 2 => .array .int
  | 3 => .array .int
  | _ => .array .int
abbrev wsX20 : List Cond := u_ws RX2 TX2 5
theorem nmX2 : ∀ a, a < 5 → ∀ b, b < 5 → a ≠ b → (TX2 a).2.1 ≠ (TX2 b).2.1 := by decide +kernel
theorem tyX2_ok : ∀ k, k < 5 → parseFieldDescriptor (TX2 k).2.2.1 = some (tyX2 k) := by decide +kernel
def RX3 : String := "PileSteadier$Pile"
def TX3 : u_T := fun k => match k with
  | 0 => ("PileSteadier$Pile", "boxes", "[LPileSteadier$Box;", true)
  | 1 => ("PileSteadier$Pile", "contacts", "[[I", true)
  | 2 => ("PileSteadier$Pile", "came", "I", false)
  | _ => ("PileSteadier$Pile", "there", "I", false)
def tyX3 : Nat → FieldType := fun k => match k with
  | 0 => .array (.object "PileSteadier$Box")
  | 1 => .array (.array .int)
  | 2 => .int
  | _ => .int
abbrev wsX30 : List Cond := u_ws RX3 TX3 4
theorem nmX3 : ∀ a, a < 4 → ∀ b, b < 4 → a ≠ b → (TX3 a).2.1 ≠ (TX3 b).2.1 := by decide +kernel
theorem tyX3_ok : ∀ k, k < 4 → parseFieldDescriptor (TX3 k).2.2.1 = some (tyX3 k) := by decide +kernel
def RX4 : String := "PileSteadier$Polygon"
def TX4 : u_T := fun k => match k with
  | 0 => ("PileSteadier$Polygon", "pointX", "[I", true)
  | 1 => ("PileSteadier$Polygon", "pointY", "[I", true)
  | 2 => ("PileSteadier$Polygon", "cornerX", "[I", true)
  | 3 => ("PileSteadier$Polygon", "cornerY", "[I", true)
  | 4 => ("PileSteadier$Polygon", "points", "I", false)
  | _ => ("PileSteadier$Polygon", "corners", "I", false)
def tyX4 : Nat → FieldType := fun k => match k with
  | 0 => .array .int
  | 1 => .array .int
  | 2 => .array .int
  | 3 => .array .int
  | 4 => .int
  | _ => .int
abbrev wsX40 : List Cond := u_ws RX4 TX4 6
theorem nmX4 : ∀ a, a < 6 → ∀ b, b < 6 → a ≠ b → (TX4 a).2.1 ≠ (TX4 b).2.1 := by decide +kernel
theorem tyX4_ok : ∀ k, k < 6 → parseFieldDescriptor (TX4 k).2.2.1 = some (tyX4 k) := by decide +kernel
def RX5 : String := "PileSteadier$Sheet"
def TX5 : u_T := fun k => match k with
  | 0 => ("PileSteadier$Sheet", "items", "[I", true)
  | 1 => ("PileSteadier$Sheet", "sort", "I", false)
  | _ => ("PileSteadier$Sheet", "size", "I", false)
def tyX5 : Nat → FieldType := fun k => match k with
  | 0 => .array .int
  | 1 => .int
  | _ => .int
abbrev wsX50 : List Cond := u_ws RX5 TX5 3
theorem nmX5 : ∀ a, a < 3 → ∀ b, b < 3 → a ≠ b → (TX5 a).2.1 ≠ (TX5 b).2.1 := by decide +kernel
theorem tyX5_ok : ∀ k, k < 3 → parseFieldDescriptor (TX5 k).2.2.1 = some (tyX5 k) := by decide +kernel
def RX6 : String := "PileSteadier$Tape"
def TX6 : u_T := fun k => match k with
  | 0 => ("PileSteadier$Tape", "bytes", "[I", true)
  | 1 => ("PileSteadier$Tape", "size", "I", false)
  | 2 => ("PileSteadier$Tape", "words", "[I", true)
  | 3 => ("PileSteadier$Tape", "numbers", "[[I", true)
  | 4 => ("PileSteadier$Tape", "clauses", "I", false)
  | 5 => ("PileSteadier$Tape", "token", "I", false)
  | 6 => ("PileSteadier$Tape", "start", "I", false)
  | 7 => ("PileSteadier$Tape", "value", "I", false)
  | _ => ("PileSteadier$Tape", "at", "I", false)
def tyX6 : Nat → FieldType := fun k => match k with
  | 0 => .array .int
  | 1 => .int
  | 2 => .array .int
  | 3 => .array (.array .int)
  | 4 => .int
  | 5 => .int
  | 6 => .int
  | 7 => .int
  | _ => .int
abbrev wsX60 : List Cond := u_ws RX6 TX6 9
theorem nmX6 : ∀ a, a < 9 → ∀ b, b < 9 → a ≠ b → (TX6 a).2.1 ≠ (TX6 b).2.1 := by decide +kernel
theorem tyX6_ok : ∀ k, k < 9 → parseFieldDescriptor (TX6 k).2.2.1 = some (tyX6 k) := by decide +kernel
def RX7 : String := "PileSteadier"
def TX7 : u_T := fun k => match k with
  | 0 => ("PileSteadier", "pile", "LPileSteadier$Pile;", true)
  | 1 => ("PileSteadier", "image", "LPileSteadier$Pile;", true)
  | 2 => ("PileSteadier", "thought", "LPileSteadier$Pile;", true)
  | 3 => ("PileSteadier", "balance", "LPileSteadier$Balance;", true)
  | 4 => ("PileSteadier", "door", "LPileSteadier$Door;", true)
  | 5 => ("PileSteadier", "tape", "LPileSteadier$Tape;", true)
  | 6 => ("PileSteadier", "sheets", "[LPileSteadier$Sheet;", true)
  | _ => ("PileSteadier", "imageKept", "Z", false)
def tyX7 : Nat → FieldType := fun k => match k with
  | 0 => .object "PileSteadier$Pile"
  | 1 => .object "PileSteadier$Pile"
  | 2 => .object "PileSteadier$Pile"
  | 3 => .object "PileSteadier$Balance"
  | 4 => .object "PileSteadier$Door"
  | 5 => .object "PileSteadier$Tape"
  | 6 => .array (.object "PileSteadier$Sheet")
  | _ => .boolean
abbrev wsX70 : List Cond := u_ws RX7 TX7 8
theorem nmX7 : ∀ a, a < 8 → ∀ b, b < 8 → a ≠ b → (TX7 a).2.1 ≠ (TX7 b).2.1 := by decide +kernel
theorem tyX7_ok : ∀ k, k < 8 → parseFieldDescriptor (TX7 k).2.2.1 = some (tyX7 k) := by decide +kernel
def RX8 : String := "PileSteadierModel"
def TX8 : u_T := fun k => match k with
  | 0 => ("PileSteadierModel", "g", "[I", true)
  | 1 => ("PileSteadierModel", "kept", "[I", true)
  | 2 => ("PileSteadierModel", "isKept", "Z", false)
  | 3 => ("PileSteadierModel", "loads", "[I", true)
  | 4 => ("PileSteadierModel", "parts", "[I", true)
  | 5 => ("PileSteadierModel", "hx", "[I", true)
  | 6 => ("PileSteadierModel", "hy", "[I", true)
  | 7 => ("PileSteadierModel", "px", "[I", true)
  | 8 => ("PileSteadierModel", "py", "[I", true)
  | 9 => ("PileSteadierModel", "points", "I", false)
  | 10 => ("PileSteadierModel", "corners", "I", false)
  | 11 => ("PileSteadierModel", "falling", "I", false)
  | 12 => ("PileSteadierModel", "crushed", "I", false)
  | 13 => ("PileSteadierModel", "tipping", "I", false)
  | 14 => ("PileSteadierModel", "sliding", "I", false)
  | 15 => ("PileSteadierModel", "ways", "[I", true)
  | 16 => ("PileSteadierModel", "line", "[I", true)
  | 17 => ("PileSteadierModel", "lined", "I", false)
  | 18 => ("PileSteadierModel", "tape", "[I", true)
  | 19 => ("PileSteadierModel", "told", "[I", true)
  | 20 => ("PileSteadierModel", "numbers", "[I", true)
  | 21 => ("PileSteadierModel", "words", "[C", true)
  | 22 => ("PileSteadierModel", "taped", "I", false)
  | 23 => ("PileSteadierModel", "at", "I", false)
  | 24 => ("PileSteadierModel", "from", "I", false)
  | 25 => ("PileSteadierModel", "length", "I", false)
  | 26 => ("PileSteadierModel", "sorts", "[I", true)
  | 27 => ("PileSteadierModel", "sizes", "[I", true)
  | 28 => ("PileSteadierModel", "items", "[I", true)
  | 29 => ("PileSteadierModel", "judged", "I", false)
  | 30 => ("PileSteadierModel", "left", "I", false)
  | _ => ("PileSteadierModel", "moved", "[I", true)
def tyX8 : Nat → FieldType := fun k => match k with
  | 0 => .array .int
  | 1 => .array .int
  | 2 => .boolean
  | 3 => .array .int
  | 4 => .array .int
  | 5 => .array .int
  | 6 => .array .int
  | 7 => .array .int
  | 8 => .array .int
  | 9 => .int
  | 10 => .int
  | 11 => .int
  | 12 => .int
  | 13 => .int
  | 14 => .int
  | 15 => .array .int
  | 16 => .array .int
  | 17 => .int
  | 18 => .array .int
  | 19 => .array .int
  | 20 => .array .int
  | 21 => .array .char
  | 22 => .int
  | 23 => .int
  | 24 => .int
  | 25 => .int
  | 26 => .array .int
  | 27 => .array .int
  | 28 => .array .int
  | 29 => .int
  | 30 => .int
  | _ => .array .int
abbrev wsX80 : List Cond := u_ws RX8 TX8 32
theorem nmX8 : ∀ a, a < 32 → ∀ b, b < 32 → a ≠ b → (TX8 a).2.1 ≠ (TX8 b).2.1 := by decide +kernel
theorem tyX8_ok : ∀ k, k < 32 → parseFieldDescriptor (TX8 k).2.2.1 = some (tyX8 k) := by decide +kernel
def RJ6 : String := "java/lang/Integer"
def RJ9 : String := "java/lang/Math"
def RJ0 : String := "java/lang/String"
def RJ1 : String := "java/lang/StringLatin1"
def RJ2 : String := "java/lang/StringUTF16"
def RJ10 : String := "java/lang/System"
def RJ7 : String := "java/util/Arrays"
def RJ3 : String := "jdk/internal/util/Preconditions"
def RL : String := "PileSteadierLaw"
abbrev cX0_init : ByteArray := prog_2_method_1_code
def yX0_init : MethodName := ⟨RX0, "<init>", "()V"⟩
abbrev cX0_settle : ByteArray := prog_2_method_2_code
def yX0_settle : MethodName := ⟨RX0, "settle", "(LPileSteadier$Pile;I)V"⟩
abbrev cX0_handDown : ByteArray := prog_2_method_3_code
def yX0_handDown : MethodName := ⟨RX0, "handDown", "(I)V"⟩
abbrev cX0_takeOn : ByteArray := prog_2_method_4_code
def yX0_takeOn : MethodName := ⟨RX0, "takeOn", "(II)V"⟩
abbrev cX0_outline : ByteArray := prog_2_method_5_code
def yX0_outline : MethodName := ⟨RX0, "outline", "(I)V"⟩
abbrev cX0_heft : ByteArray := prog_2_method_6_code
def yX0_heft : MethodName := ⟨RX0, "heft", "(I)I"⟩
abbrev cX0_toFloor : ByteArray := prog_2_method_7_code
def yX0_toFloor : MethodName := ⟨RX0, "toFloor", "(I)I"⟩
abbrev cX0_allToFloor : ByteArray := prog_2_method_8_code
def yX0_allToFloor : MethodName := ⟨RX0, "allToFloor", "()I"⟩
abbrev cX0_placed : ByteArray := prog_2_method_9_code
def yX0_placed : MethodName := ⟨RX0, "placed", "(III)I"⟩
abbrev cX0_why : ByteArray := prog_2_method_10_code
def yX0_why : MethodName := ⟨RX0, "why", "(III)I"⟩
abbrev cX0_failing : ByteArray := prog_2_method_11_code
def yX0_failing : MethodName := ⟨RX0, "failing", "(II)I"⟩
abbrev cX0_whoFailsBy : ByteArray := prog_2_method_12_code
def yX0_whoFailsBy : MethodName := ⟨RX0, "whoFailsBy", "(I)I"⟩
abbrev cX0_heaviestOn : ByteArray := prog_2_method_13_code
def yX0_heaviestOn : MethodName := ⟨RX0, "heaviestOn", "(I)I"⟩
abbrev cX1_init : ByteArray := prog_3_method_1_code
def yX1_init : MethodName := ⟨RX1, "<init>", "()V"⟩
abbrev cX1_become : ByteArray := prog_3_method_2_code
def yX1_become : MethodName := ⟨RX1, "become", "(LPileSteadier$Box;)V"⟩
abbrev cX1_top : ByteArray := prog_3_method_3_code
def yX1_top : MethodName := ⟨RX1, "top", "()I"⟩
abbrev cX1_size : ByteArray := prog_3_method_4_code
def yX1_size : MethodName := ⟨RX1, "size", "()I"⟩
abbrev cX1_left : ByteArray := prog_3_method_5_code
def yX1_left : MethodName := ⟨RX1, "left", "(LPileSteadier$Box;)I"⟩
abbrev cX1_right : ByteArray := prog_3_method_6_code
def yX1_right : MethodName := ⟨RX1, "right", "(LPileSteadier$Box;)I"⟩
abbrev cX1_near : ByteArray := prog_3_method_7_code
def yX1_near : MethodName := ⟨RX1, "near", "(LPileSteadier$Box;)I"⟩
abbrev cX1_far : ByteArray := prog_3_method_8_code
def yX1_far : MethodName := ⟨RX1, "far", "(LPileSteadier$Box;)I"⟩
abbrev cX1_meetsAlongY : ByteArray := prog_3_method_9_code
def yX1_meetsAlongY : MethodName := ⟨RX1, "meetsAlongY", "(LPileSteadier$Box;)Z"⟩
abbrev cX1_meetsInHeight : ByteArray := prog_3_method_10_code
def yX1_meetsInHeight : MethodName := ⟨RX1, "meetsInHeight", "(LPileSteadier$Box;)Z"⟩
abbrev cX1_areaWith : ByteArray := prog_3_method_11_code
def yX1_areaWith : MethodName := ⟨RX1, "areaWith", "(LPileSteadier$Box;)I"⟩
abbrev cX1_isOnFloor : ByteArray := prog_3_method_12_code
def yX1_isOnFloor : MethodName := ⟨RX1, "isOnFloor", "()Z"⟩
abbrev cX1_floorContact : ByteArray := prog_3_method_13_code
def yX1_floorContact : MethodName := ⟨RX1, "floorContact", "()I"⟩
abbrev cX1_isOfKind : ByteArray := prog_3_method_14_code
def yX1_isOfKind : MethodName := ⟨RX1, "isOfKind", "(I)Z"⟩
abbrev cX1_bears : ByteArray := prog_3_method_15_code
def yX1_bears : MethodName := ⟨RX1, "bears", "()I"⟩
abbrev cX1_grip : ByteArray := prog_3_method_16_code
def yX1_grip : MethodName := ⟨RX1, "grip", "()I"⟩
abbrev cX1_ownCentreX : ByteArray := prog_3_method_17_code
def yX1_ownCentreX : MethodName := ⟨RX1, "ownCentreX", "()I"⟩
abbrev cX1_ownCentreY : ByteArray := prog_3_method_18_code
def yX1_ownCentreY : MethodName := ⟨RX1, "ownCentreY", "()I"⟩
abbrev cX2_init : ByteArray := prog_4_method_1_code
def yX2_init : MethodName := ⟨RX2, "<init>", "()V"⟩
abbrev cX2_begin : ByteArray := prog_4_method_2_code
def yX2_begin : MethodName := ⟨RX2, "begin", "()V"⟩
abbrev cX2_freeIn : ByteArray := prog_4_method_3_code
def yX2_freeIn : MethodName := ⟨RX2, "freeIn", "(LPileSteadier$Pile;I)I"⟩
abbrev cX2_findOrders : ByteArray := prog_4_method_4_code
def yX2_findOrders : MethodName := ⟨RX2, "findOrders", "(LPileSteadier$Pile;)I"⟩
abbrev cX2_findFree : ByteArray := prog_4_method_5_code
def yX2_findFree : MethodName := ⟨RX2, "findFree", "(LPileSteadier$Pile;)V"⟩
abbrev cX2_findFirst : ByteArray := prog_4_method_6_code
def yX2_findFirst : MethodName := ⟨RX2, "findFirst", "(I)V"⟩
abbrev cX3_init : ByteArray := prog_5_method_1_code
def yX3_init : MethodName := ⟨RX3, "<init>", "()V"⟩
abbrev cX3_become : ByteArray := prog_5_method_2_code
def yX3_become : MethodName := ⟨RX3, "become", "(LPileSteadier$Pile;)V"⟩
abbrev cX3_knows : ByteArray := prog_5_method_3_code
def yX3_knows : MethodName := ⟨RX3, "knows", "(I)Z"⟩
abbrev cX3_has : ByteArray := prog_5_method_4_code
def yX3_has : MethodName := ⟨RX3, "has", "(I)Z"⟩
abbrev cX3_receive : ByteArray := prog_5_method_5_code
def yX3_receive : MethodName := ⟨RX3, "receive", "(IIIII)I"⟩
abbrev cX3_greatestTopUnder : ByteArray := prog_5_method_6_code
def yX3_greatestTopUnder : MethodName := ⟨RX3, "greatestTopUnder", "(LPileSteadier$Box;)I"⟩
abbrev cX3_noteContacts : ByteArray := prog_5_method_7_code
def yX3_noteContacts : MethodName := ⟨RX3, "noteContacts", "(I)V"⟩
abbrev cX3_below : ByteArray := prog_5_method_8_code
def yX3_below : MethodName := ⟨RX3, "below", "(II)I"⟩
abbrev cX3_above : ByteArray := prog_5_method_9_code
def yX3_above : MethodName := ⟨RX3, "above", "(II)I"⟩
abbrev cX3_inWay : ByteArray := prog_5_method_10_code
def yX3_inWay : MethodName := ⟨RX3, "inWay", "(II)I"⟩
abbrev cX3_weightOfAll : ByteArray := prog_5_method_11_code
def yX3_weightOfAll : MethodName := ⟨RX3, "weightOfAll", "()I"⟩
abbrev cX3_restingPairs : ByteArray := prog_5_method_12_code
def yX3_restingPairs : MethodName := ⟨RX3, "restingPairs", "()I"⟩
abbrev cX4_init : ByteArray := prog_6_method_1_code
def yX4_init : MethodName := ⟨RX4, "<init>", "()V"⟩
abbrev cX4_clear : ByteArray := prog_6_method_2_code
def yX4_clear : MethodName := ⟨RX4, "clear", "()V"⟩
abbrev cX4_add : ByteArray := prog_6_method_3_code
def yX4_add : MethodName := ⟨RX4, "add", "(LPileSteadier$Box;LPileSteadier$Box;)V"⟩
abbrev cX4_wrap : ByteArray := prog_6_method_4_code
def yX4_wrap : MethodName := ⟨RX4, "wrap", "()V"⟩
abbrev cX4_nextRound : ByteArray := prog_6_method_5_code
def yX4_nextRound : MethodName := ⟨RX4, "nextRound", "(I)I"⟩
abbrev cX4_holds : ByteArray := prog_6_method_6_code
def yX4_holds : MethodName := ⟨RX4, "holds", "(JJJ)I"⟩
abbrev cX5_init : ByteArray := prog_7_method_1_code
def yX5_init : MethodName := ⟨RX5, "<init>", "()V"⟩
abbrev cX5_become : ByteArray := prog_7_method_2_code
def yX5_become : MethodName := ⟨RX5, "become", "(II)V"⟩
abbrev cX5_isMissing : ByteArray := prog_7_method_3_code
def yX5_isMissing : MethodName := ⟨RX5, "isMissing", "()Z"⟩
abbrev cX5_holds : ByteArray := prog_7_method_4_code
def yX5_holds : MethodName := ⟨RX5, "holds", "(II)Z"⟩
abbrev cX6_init : ByteArray := prog_8_method_1_code
def yX6_init : MethodName := ⟨RX6, "<init>", "()V"⟩
abbrev cX6_append : ByteArray := prog_8_method_2_code
def yX6_append : MethodName := ⟨RX6, "append", "(I)V"⟩
abbrev cX6_read : ByteArray := prog_8_method_3_code
def yX6_read : MethodName := ⟨RX6, "read", "()I"⟩
abbrev cX6_readClause : ByteArray := prog_8_method_4_code
def yX6_readClause : MethodName := ⟨RX6, "readClause", "()Z"⟩
abbrev cX6_step : ByteArray := prog_8_method_5_code
def yX6_step : MethodName := ⟨RX6, "step", "()V"⟩
abbrev cX6_readWord : ByteArray := prog_8_method_6_code
def yX6_readWord : MethodName := ⟨RX6, "readWord", "()V"⟩
abbrev cX6_isWord : ByteArray := prog_8_method_7_code
def yX6_isWord : MethodName := ⟨RX6, "isWord", "(Ljava/lang/String;)Z"⟩
abbrev cX6_readNumber : ByteArray := prog_8_method_8_code
def yX6_readNumber : MethodName := ⟨RX6, "readNumber", "()V"⟩
abbrev cX6_isLetter : ByteArray := prog_8_method_9_code
def yX6_isLetter : MethodName := ⟨RX6, "isLetter", "(I)Z"⟩
abbrev cX6_isDigit : ByteArray := prog_8_method_10_code
def yX6_isDigit : MethodName := ⟨RX6, "isDigit", "(I)Z"⟩
abbrev cX7_init : ByteArray := prog_1_method_1_code
def yX7_init : MethodName := ⟨RX7, "<init>", "()V"⟩
abbrev cX7_box : ByteArray := prog_1_method_2_code
def yX7_box : MethodName := ⟨RX7, "box", "(IIIII)I"⟩
abbrev cX7_of : ByteArray := prog_1_method_3_code
def yX7_of : MethodName := ⟨RX7, "of", "(II)I"⟩
abbrev cX7_kind : ByteArray := prog_1_method_4_code
def yX7_kind : MethodName := ⟨RX7, "kind", "(III)I"⟩
abbrev cX7_weigh : ByteArray := prog_1_method_5_code
def yX7_weigh : MethodName := ⟨RX7, "weigh", "(III)I"⟩
abbrev cX7_taken : ByteArray := prog_1_method_6_code
def yX7_taken : MethodName := ⟨RX7, "taken", "(II)I"⟩
abbrev cX7_off : ByteArray := prog_1_method_7_code
def yX7_off : MethodName := ⟨RX7, "off", "(I)I"⟩
abbrev cX7_on : ByteArray := prog_1_method_8_code
def yX7_on : MethodName := ⟨RX7, "on", "(II)I"⟩
abbrev cX7_contact : ByteArray := prog_1_method_9_code
def yX7_contact : MethodName := ⟨RX7, "contact", "(II)I"⟩
abbrev cX7_load : ByteArray := prog_1_method_10_code
def yX7_load : MethodName := ⟨RX7, "load", "(I)I"⟩
abbrev cX7_hands : ByteArray := prog_1_method_11_code
def yX7_hands : MethodName := ⟨RX7, "hands", "(II)I"⟩
abbrev cX7_centre : ByteArray := prog_1_method_12_code
def yX7_centre : MethodName := ⟨RX7, "centre", "(III)J"⟩
abbrev cX7_corner : ByteArray := prog_1_method_13_code
def yX7_corner : MethodName := ⟨RX7, "corner", "(III)I"⟩
abbrev cX7_lies : ByteArray := prog_1_method_14_code
def yX7_lies : MethodName := ⟨RX7, "lies", "(I)I"⟩
abbrev cX7_stands : ByteArray := prog_1_method_15_code
def yX7_stands : MethodName := ⟨RX7, "stands", "(I)I"⟩
abbrev cX7_fails : ByteArray := prog_1_method_16_code
def yX7_fails : MethodName := ⟨RX7, "fails", "(I)I"⟩
abbrev cX7_tilt : ByteArray := prog_1_method_17_code
def yX7_tilt : MethodName := ⟨RX7, "tilt", "(II)I"⟩
abbrev cX7_most : ByteArray := prog_1_method_18_code
def yX7_most : MethodName := ⟨RX7, "most", "(I)I"⟩
abbrev cX7_free : ByteArray := prog_1_method_19_code
def yX7_free : MethodName := ⟨RX7, "free", "()I"⟩
abbrev cX7_way : ByteArray := prog_1_method_20_code
def yX7_way : MethodName := ⟨RX7, "way", "(I)I"⟩
abbrev cX7_order : ByteArray := prog_1_method_21_code
def yX7_order : MethodName := ⟨RX7, "order", "(I)I"⟩
abbrev cX7_without : ByteArray := prog_1_method_22_code
def yX7_without : MethodName := ⟨RX7, "without", "(I)I"⟩
abbrev cX7_spot : ByteArray := prog_1_method_23_code
def yX7_spot : MethodName := ⟨RX7, "spot", "(III)I"⟩
abbrev cX7_bumps : ByteArray := prog_1_method_24_code
def yX7_bumps : MethodName := ⟨RX7, "bumps", "(II)I"⟩
abbrev cX7_chance : ByteArray := prog_1_method_25_code
def yX7_chance : MethodName := ⟨RX7, "chance", "(IIII)I"⟩
abbrev cX7_feed : ByteArray := prog_1_method_26_code
def yX7_feed : MethodName := ⟨RX7, "feed", "(IIIIII)I"⟩
abbrev cX7_text : ByteArray := prog_1_method_27_code
def yX7_text : MethodName := ⟨RX7, "text", "()I"⟩
abbrev cX7_tells : ByteArray := prog_1_method_28_code
def yX7_tells : MethodName := ⟨RX7, "tells", "(II)I"⟩
abbrev cX7_film : ByteArray := prog_1_method_29_code
def yX7_film : MethodName := ⟨RX7, "film", "(I)I"⟩
abbrev cX7_comes : ByteArray := prog_1_method_30_code
def yX7_comes : MethodName := ⟨RX7, "comes", "(IIII)I"⟩
abbrev cX7_image : ByteArray := prog_1_method_31_code
def yX7_image : MethodName := ⟨RX7, "image", "()I"⟩
abbrev cX7_back : ByteArray := prog_1_method_32_code
def yX7_back : MethodName := ⟨RX7, "back", "()I"⟩
abbrev cX7_count : ByteArray := prog_1_method_33_code
def yX7_count : MethodName := ⟨RX7, "count", "(I)I"⟩
abbrev cX7_sheet : ByteArray := prog_1_method_34_code
def yX7_sheet : MethodName := ⟨RX7, "sheet", "(III)I"⟩
abbrev cX7_put : ByteArray := prog_1_method_35_code
def yX7_put : MethodName := ⟨RX7, "put", "(III)I"⟩
abbrev cX7_copy : ByteArray := prog_1_method_36_code
def yX7_copy : MethodName := ⟨RX7, "copy", "(IIIII)I"⟩
abbrev cX7_isKind : ByteArray := prog_1_method_37_code
def yX7_isKind : MethodName := ⟨RX7, "isKind", "(I)Z"⟩
abbrev cX7_isWeight : ByteArray := prog_1_method_38_code
def yX7_isWeight : MethodName := ⟨RX7, "isWeight", "(J)Z"⟩
abbrev cX7_isSize : ByteArray := prog_1_method_39_code
def yX7_isSize : MethodName := ⟨RX7, "isSize", "(I)Z"⟩
abbrev cX7_isLength : ByteArray := prog_1_method_40_code
def yX7_isLength : MethodName := ⟨RX7, "isLength", "(I)Z"⟩
abbrev cX7_isAxis : ByteArray := prog_1_method_41_code
def yX7_isAxis : MethodName := ⟨RX7, "isAxis", "(I)Z"⟩
abbrev cX7_isPart : ByteArray := prog_1_method_42_code
def yX7_isPart : MethodName := ⟨RX7, "isPart", "(I)Z"⟩
abbrev cX7_isSide : ByteArray := prog_1_method_43_code
def yX7_isSide : MethodName := ⟨RX7, "isSide", "(I)Z"⟩
abbrev cX7_isByte : ByteArray := prog_1_method_44_code
def yX7_isByte : MethodName := ⟨RX7, "isByte", "(I)Z"⟩
abbrev cX7_isSheet : ByteArray := prog_1_method_45_code
def yX7_isSheet : MethodName := ⟨RX7, "isSheet", "(I)Z"⟩
abbrev cX7_isBoxAndOther : ByteArray := prog_1_method_46_code
def yX7_isBoxAndOther : MethodName := ⟨RX7, "isBoxAndOther", "(II)Z"⟩
abbrev cX7_settle : ByteArray := prog_1_method_47_code
def yX7_settle : MethodName := ⟨RX7, "settle", "()V"⟩
abbrev cX7_wouldStandAt : ByteArray := prog_1_method_48_code
def yX7_wouldStandAt : MethodName := ⟨RX7, "wouldStandAt", "(III)Z"⟩
abbrev cX7_standingKinds : ByteArray := prog_1_method_49_code
def yX7_standingKinds : MethodName := ⟨RX7, "standingKinds", "(I)I"⟩
abbrev cX7_firstFailingBump : ByteArray := prog_1_method_50_code
def yX7_firstFailingBump : MethodName := ⟨RX7, "firstFailingBump", "(II)I"⟩
abbrev cX7_nextDrawn : ByteArray := prog_1_method_51_code
def yX7_nextDrawn : MethodName := ⟨RX7, "nextDrawn", "(I)I"⟩
abbrev cX7_lowest : ByteArray := prog_1_method_52_code
def yX7_lowest : MethodName := ⟨RX7, "lowest", "(JJI)J"⟩
abbrev cX7_firstIn : ByteArray := prog_1_method_53_code
def yX7_firstIn : MethodName := ⟨RX7, "firstIn", "(I)I"⟩
abbrev cX7_isIn : ByteArray := prog_1_method_54_code
def yX7_isIn : MethodName := ⟨RX7, "isIn", "(II)Z"⟩
abbrev cX8_init : ByteArray := prog_10_method_1_code
def yX8_init : MethodName := ⟨RX8, "<init>", "()V"⟩
abbrev cX8_isIn : ByteArray := prog_10_method_2_code
def yX8_isIn : MethodName := ⟨RX8, "isIn", "(III)Z"⟩
abbrev cX8_has : ByteArray := prog_10_method_3_code
def yX8_has : MethodName := ⟨RX8, "has", "(II)Z"⟩
abbrev cX8_bits : ByteArray := prog_10_method_4_code
def yX8_bits : MethodName := ⟨RX8, "bits", "(I)I"⟩
abbrev cX8_there : ByteArray := prog_10_method_5_code
def yX8_there : MethodName := ⟨RX8, "there", "()I"⟩
abbrev cX8_isBox : ByteArray := prog_10_method_6_code
def yX8_isBox : MethodName := ⟨RX8, "isBox", "(I)Z"⟩
abbrev cX8_isThere : ByteArray := prog_10_method_7_code
def yX8_isThere : MethodName := ⟨RX8, "isThere", "(I)Z"⟩
abbrev cX8_bearsBy : ByteArray := prog_10_method_8_code
def yX8_bearsBy : MethodName := ⟨RX8, "bearsBy", "(II)I"⟩
abbrev cX8_gripBy : ByteArray := prog_10_method_9_code
def yX8_gripBy : MethodName := ⟨RX8, "gripBy", "(II)I"⟩
abbrev cX8_top : ByteArray := prog_10_method_10_code
def yX8_top : MethodName := ⟨RX8, "top", "(I)I"⟩
abbrev cX8_shared : ByteArray := prog_10_method_11_code
def yX8_shared : MethodName := ⟨RX8, "shared", "(IIII)I"⟩
abbrev cX8_alongX : ByteArray := prog_10_method_12_code
def yX8_alongX : MethodName := ⟨RX8, "alongX", "(II)I"⟩
abbrev cX8_alongY : ByteArray := prog_10_method_13_code
def yX8_alongY : MethodName := ⟨RX8, "alongY", "(II)I"⟩
abbrev cX8_inHeight : ByteArray := prog_10_method_14_code
def yX8_inHeight : MethodName := ⟨RX8, "inHeight", "(II)I"⟩
abbrev cX8_overlap : ByteArray := prog_10_method_15_code
def yX8_overlap : MethodName := ⟨RX8, "overlap", "(II)I"⟩
abbrev cX8_contactOf : ByteArray := prog_10_method_16_code
def yX8_contactOf : MethodName := ⟨RX8, "contactOf", "(II)I"⟩
abbrev cX8_handsDown : ByteArray := prog_10_method_17_code
def yX8_handsDown : MethodName := ⟨RX8, "handsDown", "(II)V"⟩
abbrev cX8_loadAll : ByteArray := prog_10_method_18_code
def yX8_loadAll : MethodName := ⟨RX8, "loadAll", "(I)V"⟩
abbrev cX8_centreOf : ByteArray := prog_10_method_19_code
def yX8_centreOf : MethodName := ⟨RX8, "centreOf", "(III)I"⟩
abbrev cX8_point : ByteArray := prog_10_method_20_code
def yX8_point : MethodName := ⟨RX8, "point", "(II)V"⟩
abbrev cX8_rectangle : ByteArray := prog_10_method_21_code
def yX8_rectangle : MethodName := ⟨RX8, "rectangle", "(IIII)V"⟩
abbrev cX8_more : ByteArray := prog_10_method_22_code
def yX8_more : MethodName := ⟨RX8, "more", "(II)I"⟩
abbrev cX8_less : ByteArray := prog_10_method_23_code
def yX8_less : MethodName := ⟨RX8, "less", "(II)I"⟩
abbrev cX8_cross : ByteArray := prog_10_method_24_code
def yX8_cross : MethodName := ⟨RX8, "cross", "(IIII)I"⟩
abbrev cX8_turns : ByteArray := prog_10_method_25_code
def yX8_turns : MethodName := ⟨RX8, "turns", "(III)V"⟩
abbrev cX8_findPolygon : ByteArray := prog_10_method_26_code
def yX8_findPolygon : MethodName := ⟨RX8, "findPolygon", "(II)V"⟩
abbrev cX8_cut : ByteArray := prog_10_method_27_code
def yX8_cut : MethodName := ⟨RX8, "cut", "(JJJJ)J"⟩
abbrev cX8_liesAt : ByteArray := prog_10_method_28_code
def yX8_liesAt : MethodName := ⟨RX8, "liesAt", "(JJJ)I"⟩
abbrev cX8_liesOf : ByteArray := prog_10_method_29_code
def yX8_liesOf : MethodName := ⟨RX8, "liesOf", "(IIII)I"⟩
abbrev cX8_isHeld : ByteArray := prog_10_method_30_code
def yX8_isHeld : MethodName := ⟨RX8, "isHeld", "(II)Z"⟩
abbrev cX8_failing : ByteArray := prog_10_method_31_code
def yX8_failing : MethodName := ⟨RX8, "failing", "(III)I"⟩
abbrev cX8_restingOn : ByteArray := prog_10_method_32_code
def yX8_restingOn : MethodName := ⟨RX8, "restingOn", "(II)I"⟩
abbrev cX8_inWay : ByteArray := prog_10_method_33_code
def yX8_inWay : MethodName := ⟨RX8, "inWay", "(II)I"⟩
abbrev cX8_isFree : ByteArray := prog_10_method_34_code
def yX8_isFree : MethodName := ⟨RX8, "isFree", "(II)Z"⟩
abbrev cX8_isSize : ByteArray := prog_10_method_35_code
def yX8_isSize : MethodName := ⟨RX8, "isSize", "(I)Z"⟩
abbrev cX8_lays : ByteArray := prog_10_method_36_code
def yX8_lays : MethodName := ⟨RX8, "lays", "(IIIIII)V"⟩
abbrev cX8_box : ByteArray := prog_10_method_37_code
def yX8_box : MethodName := ⟨RX8, "box", "(IIIII)I"⟩
abbrev cX8_of : ByteArray := prog_10_method_38_code
def yX8_of : MethodName := ⟨RX8, "of", "(II)I"⟩
abbrev cX8_kind : ByteArray := prog_10_method_39_code
def yX8_kind : MethodName := ⟨RX8, "kind", "(III)I"⟩
abbrev cX8_weigh : ByteArray := prog_10_method_40_code
def yX8_weigh : MethodName := ⟨RX8, "weigh", "(III)I"⟩
abbrev cX8_isUnder : ByteArray := prog_10_method_41_code
def yX8_isUnder : MethodName := ⟨RX8, "isUnder", "(II)Z"⟩
abbrev cX8_taken : ByteArray := prog_10_method_42_code
def yX8_taken : MethodName := ⟨RX8, "taken", "(II)I"⟩
abbrev cX8_off : ByteArray := prog_10_method_43_code
def yX8_off : MethodName := ⟨RX8, "off", "(I)I"⟩
abbrev cX8_below : ByteArray := prog_10_method_44_code
def yX8_below : MethodName := ⟨RX8, "below", "(I)I"⟩
abbrev cX8_on : ByteArray := prog_10_method_45_code
def yX8_on : MethodName := ⟨RX8, "on", "(II)I"⟩
abbrev cX8_contact : ByteArray := prog_10_method_46_code
def yX8_contact : MethodName := ⟨RX8, "contact", "(II)I"⟩
abbrev cX8_load : ByteArray := prog_10_method_47_code
def yX8_load : MethodName := ⟨RX8, "load", "(I)I"⟩
abbrev cX8_hands : ByteArray := prog_10_method_48_code
def yX8_hands : MethodName := ⟨RX8, "hands", "(II)I"⟩
abbrev cX8_common : ByteArray := prog_10_method_49_code
def yX8_common : MethodName := ⟨RX8, "common", "(JJ)J"⟩
abbrev cX8_partOf : ByteArray := prog_10_method_50_code
def yX8_partOf : MethodName := ⟨RX8, "partOf", "(JJI)J"⟩
abbrev cX8_centre : ByteArray := prog_10_method_51_code
def yX8_centre : MethodName := ⟨RX8, "centre", "(III)J"⟩
abbrev cX8_corner : ByteArray := prog_10_method_52_code
def yX8_corner : MethodName := ⟨RX8, "corner", "(III)I"⟩
abbrev cX8_lies : ByteArray := prog_10_method_53_code
def yX8_lies : MethodName := ⟨RX8, "lies", "(I)I"⟩
abbrev cX8_stands : ByteArray := prog_10_method_54_code
def yX8_stands : MethodName := ⟨RX8, "stands", "(I)I"⟩
abbrev cX8_firstOf : ByteArray := prog_10_method_55_code
def yX8_firstOf : MethodName := ⟨RX8, "firstOf", "(I)I"⟩
abbrev cX8_causeOf : ByteArray := prog_10_method_56_code
def yX8_causeOf : MethodName := ⟨RX8, "causeOf", "(I)I"⟩
abbrev cX8_fails : ByteArray := prog_10_method_57_code
def yX8_fails : MethodName := ⟨RX8, "fails", "(I)I"⟩
abbrev cX8_tilt : ByteArray := prog_10_method_58_code
def yX8_tilt : MethodName := ⟨RX8, "tilt", "(II)I"⟩
abbrev cX8_most : ByteArray := prog_10_method_59_code
def yX8_most : MethodName := ⟨RX8, "most", "(I)I"⟩
abbrev cX8_free : ByteArray := prog_10_method_60_code
def yX8_free : MethodName := ⟨RX8, "free", "()I"⟩
abbrev cX8_way : ByteArray := prog_10_method_61_code
def yX8_way : MethodName := ⟨RX8, "way", "(I)I"⟩
abbrev cX8_findWays : ByteArray := prog_10_method_62_code
def yX8_findWays : MethodName := ⟨RX8, "findWays", "()V"⟩
abbrev cX8_findLine : ByteArray := prog_10_method_63_code
def yX8_findLine : MethodName := ⟨RX8, "findLine", "()V"⟩
abbrev cX8_order : ByteArray := prog_10_method_64_code
def yX8_order : MethodName := ⟨RX8, "order", "(I)I"⟩
abbrev cX8_without : ByteArray := prog_10_method_65_code
def yX8_without : MethodName := ⟨RX8, "without", "(I)I"⟩
abbrev cX8_canCome : ByteArray := prog_10_method_66_code
def yX8_canCome : MethodName := ⟨RX8, "canCome", "(IIII)Z"⟩
abbrev cX8_spot : ByteArray := prog_10_method_67_code
def yX8_spot : MethodName := ⟨RX8, "spot", "(III)I"⟩
abbrev cX8_bumped : ByteArray := prog_10_method_68_code
def yX8_bumped : MethodName := ⟨RX8, "bumped", "(II)I"⟩
abbrev cX8_bumps : ByteArray := prog_10_method_69_code
def yX8_bumps : MethodName := ⟨RX8, "bumps", "(II)I"⟩
abbrev cX8_chance : ByteArray := prog_10_method_70_code
def yX8_chance : MethodName := ⟨RX8, "chance", "(IIII)I"⟩
abbrev cX8_feed : ByteArray := prog_10_method_71_code
def yX8_feed : MethodName := ⟨RX8, "feed", "(IIIIII)I"⟩
abbrev cX8_isSort : ByteArray := prog_10_method_72_code
def yX8_isSort : MethodName := ⟨RX8, "isSort", "(II)Z"⟩
abbrev cX8_token : ByteArray := prog_10_method_73_code
def yX8_token : MethodName := ⟨RX8, "token", "()I"⟩
abbrev cX8_wordOf : ByteArray := prog_10_method_74_code
def yX8_wordOf : MethodName := ⟨RX8, "wordOf", "()I"⟩
abbrev cX8_clause : ByteArray := prog_10_method_75_code
def yX8_clause : MethodName := ⟨RX8, "clause", "()I"⟩
abbrev cX8_isDone : ByteArray := prog_10_method_76_code
def yX8_isDone : MethodName := ⟨RX8, "isDone", "(I)Z"⟩
abbrev cX8_reads : ByteArray := prog_10_method_77_code
def yX8_reads : MethodName := ⟨RX8, "reads", "(Z)I"⟩
abbrev cX8_text : ByteArray := prog_10_method_78_code
def yX8_text : MethodName := ⟨RX8, "text", "()I"⟩
abbrev cX8_isSheet : ByteArray := prog_10_method_79_code
def yX8_isSheet : MethodName := ⟨RX8, "isSheet", "(I)Z"⟩
abbrev cX8_judges : ByteArray := prog_10_method_80_code
def yX8_judges : MethodName := ⟨RX8, "judges", "(I)V"⟩
abbrev cX8_kindsOf : ByteArray := prog_10_method_81_code
def yX8_kindsOf : MethodName := ⟨RX8, "kindsOf", "(I)I"⟩
abbrev cX8_tells : ByteArray := prog_10_method_82_code
def yX8_tells : MethodName := ⟨RX8, "tells", "(II)I"⟩
abbrev cX8_film : ByteArray := prog_10_method_83_code
def yX8_film : MethodName := ⟨RX8, "film", "(I)I"⟩
abbrev cX8_comes : ByteArray := prog_10_method_84_code
def yX8_comes : MethodName := ⟨RX8, "comes", "(IIII)I"⟩
abbrev cX8_image : ByteArray := prog_10_method_85_code
def yX8_image : MethodName := ⟨RX8, "image", "()I"⟩
abbrev cX8_back : ByteArray := prog_10_method_86_code
def yX8_back : MethodName := ⟨RX8, "back", "()I"⟩
abbrev cX8_weights : ByteArray := prog_10_method_87_code
def yX8_weights : MethodName := ⟨RX8, "weights", "()I"⟩
abbrev cX8_twos : ByteArray := prog_10_method_88_code
def yX8_twos : MethodName := ⟨RX8, "twos", "()I"⟩
abbrev cX8_toFloor : ByteArray := prog_10_method_89_code
def yX8_toFloor : MethodName := ⟨RX8, "toFloor", "()I"⟩
abbrev cX8_count : ByteArray := prog_10_method_90_code
def yX8_count : MethodName := ⟨RX8, "count", "(I)I"⟩
abbrev cX8_sheet : ByteArray := prog_10_method_91_code
def yX8_sheet : MethodName := ⟨RX8, "sheet", "(III)I"⟩
abbrev cX8_put : ByteArray := prog_10_method_92_code
def yX8_put : MethodName := ⟨RX8, "put", "(III)I"⟩
abbrev cX8_copy : ByteArray := prog_10_method_93_code
def yX8_copy : MethodName := ⟨RX8, "copy", "(IIIII)I"⟩
abbrev cJ6_bitCount_0f7a4 : ByteArray := prog_11_method_49_code
def yJ6_bitCount_0f7a4 : MethodName := ⟨RJ6, "bitCount", "(I)I"⟩
abbrev cJ0_length_8abf5 : ByteArray := prog_13_method_54_code
def yJ0_length_8abf5 : MethodName := ⟨RJ0, "length", "()I"⟩
abbrev cJ0_charAt_5068e : ByteArray := prog_13_method_56_code
def yJ0_charAt_5068e : MethodName := ⟨RJ0, "charAt", "(I)C"⟩
abbrev cJ0_coder_7d493 : ByteArray := prog_13_method_152_code
def yJ0_coder_7d493 : MethodName := ⟨RJ0, "coder", "()B"⟩
abbrev cJ0_isLatin1_aae02 : ByteArray := prog_13_method_154_code
def yJ0_isLatin1_aae02 : MethodName := ⟨RJ0, "isLatin1", "()Z"⟩
abbrev cJ0_checkIndex_df160 : ByteArray := prog_13_method_155_code
def yJ0_checkIndex_df160 : MethodName := ⟨RJ0, "checkIndex", "(II)V"⟩
abbrev cJ1_charAt_3b067 : ByteArray := prog_14_method_2_code
def yJ1_charAt_3b067 : MethodName := ⟨RJ1, "charAt", "([BI)C"⟩
abbrev cJ7_fill_53178 : ByteArray := prog_17_method_103_code
def yJ7_fill_53178 : MethodName := ⟨RJ7, "fill", "([II)V"⟩
abbrev cJ3_checkIndex_8e157 : ByteArray := prog_18_method_11_code
def yJ3_checkIndex_8e157 : MethodName := ⟨RJ3, "checkIndex", "(IILjava/util/function/BiFunction;)I"⟩
abbrev cL_law : ByteArray := code
def yL_law : MethodName := ⟨RL, "law", "([I)Z"⟩
abbrev vwCl : List vw_C := [(RX0, TX0, 7), (RX1, TX1, 9), (RX2, TX2, 5), (RX3, TX3, 4), (RX4, TX4, 6), (RX5, TX5, 3), (RX6, TX6, 9), (RX7, TX7, 8), (RX8, TX8, 32)]
