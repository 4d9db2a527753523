section
-- ===== PART A: goes FIRST, ahead of the names: the tables' words, and 'selects' of the private methods out of them =====
/-- a private method of a class that the tables say can be made, by its rows of tables_1 -/
def lw_okq (q : MethodName × Nat) : Prop := (q.1.cls ≠ "java/lang/invoke/MethodHandle" ∧ q.1.cls ≠ "java/lang/invoke/VarHandle") ∧ Cond.instantiable q.1.cls q.2 ∈ tables_1 ∧ Cond.privateMethod q.1 ∈ tables_1 ∧ Cond.instanceMethod q.1 ∈ tables_1
theorem lw_p0 : lw_okq (⟨"PileSteadier$Pile", "greatestTopUnder", "(LPileSteadier$Box;)I"⟩, 4) := ⟨⟨by decide +kernel, by decide +kernel⟩, List.mem_of_getElem? (i := 27) (by decide +kernel), List.mem_of_getElem? (i := 305) (by decide +kernel), List.mem_of_getElem? (i := 306) (by decide +kernel)⟩
theorem lw_p1 : lw_okq (⟨"PileSteadier$Pile", "noteContacts", "(I)V"⟩, 4) := ⟨⟨by decide +kernel, by decide +kernel⟩, List.mem_of_getElem? (i := 27) (by decide +kernel), List.mem_of_getElem? (i := 339) (by decide +kernel), List.mem_of_getElem? (i := 340) (by decide +kernel)⟩
theorem lw_p2 : lw_okq (⟨"PileSteadier$Balance", "handDown", "(I)V"⟩, 7) := ⟨⟨by decide +kernel, by decide +kernel⟩, List.mem_of_getElem? (i := 108) (by decide +kernel), List.mem_of_getElem? (i := 435) (by decide +kernel), List.mem_of_getElem? (i := 436) (by decide +kernel)⟩
theorem lw_p3 : lw_okq (⟨"PileSteadier$Balance", "takeOn", "(II)V"⟩, 7) := ⟨⟨by decide +kernel, by decide +kernel⟩, List.mem_of_getElem? (i := 108) (by decide +kernel), List.mem_of_getElem? (i := 447) (by decide +kernel), List.mem_of_getElem? (i := 448) (by decide +kernel)⟩
theorem lw_p4 : lw_okq (⟨"PileSteadier$Balance", "outline", "(I)V"⟩, 7) := ⟨⟨by decide +kernel, by decide +kernel⟩, List.mem_of_getElem? (i := 108) (by decide +kernel), List.mem_of_getElem? (i := 456) (by decide +kernel), List.mem_of_getElem? (i := 457) (by decide +kernel)⟩
theorem lw_p5 : lw_okq (⟨"PileSteadier$Polygon", "nextRound", "(I)I"⟩, 6) := ⟨⟨by decide +kernel, by decide +kernel⟩, List.mem_of_getElem? (i := 118) (by decide +kernel), List.mem_of_getElem? (i := 480) (by decide +kernel), List.mem_of_getElem? (i := 481) (by decide +kernel)⟩
theorem lw_p6 : lw_okq (⟨"PileSteadier", "isBoxAndOther", "(II)Z"⟩, 8) := ⟨⟨by decide +kernel, by decide +kernel⟩, List.mem_of_getElem? (i := 19) (by decide +kernel), List.mem_of_getElem? (i := 520) (by decide +kernel), List.mem_of_getElem? (i := 521) (by decide +kernel)⟩
theorem lw_p7 : lw_okq (⟨"PileSteadier", "settle", "()V"⟩, 8) := ⟨⟨by decide +kernel, by decide +kernel⟩, List.mem_of_getElem? (i := 19) (by decide +kernel), List.mem_of_getElem? (i := 533) (by decide +kernel), List.mem_of_getElem? (i := 534) (by decide +kernel)⟩
theorem lw_p8 : lw_okq (⟨"PileSteadier$Door", "findFree", "(LPileSteadier$Pile;)V"⟩, 5) := ⟨⟨by decide +kernel, by decide +kernel⟩, List.mem_of_getElem? (i := 175) (by decide +kernel), List.mem_of_getElem? (i := 623) (by decide +kernel), List.mem_of_getElem? (i := 624) (by decide +kernel)⟩
theorem lw_p9 : lw_okq (⟨"PileSteadier$Door", "findFirst", "(I)V"⟩, 5) := ⟨⟨by decide +kernel, by decide +kernel⟩, List.mem_of_getElem? (i := 175) (by decide +kernel), List.mem_of_getElem? (i := 628) (by decide +kernel), List.mem_of_getElem? (i := 629) (by decide +kernel)⟩
theorem lw_p10 : lw_okq (⟨"PileSteadier", "wouldStandAt", "(III)Z"⟩, 8) := ⟨⟨by decide +kernel, by decide +kernel⟩, List.mem_of_getElem? (i := 19) (by decide +kernel), List.mem_of_getElem? (i := 641) (by decide +kernel), List.mem_of_getElem? (i := 642) (by decide +kernel)⟩
theorem lw_p11 : lw_okq (⟨"PileSteadier", "firstFailingBump", "(II)I"⟩, 8) := ⟨⟨by decide +kernel, by decide +kernel⟩, List.mem_of_getElem? (i := 19) (by decide +kernel), List.mem_of_getElem? (i := 660) (by decide +kernel), List.mem_of_getElem? (i := 661) (by decide +kernel)⟩
theorem lw_p12 : lw_okq (⟨"PileSteadier$Tape", "readClause", "()Z"⟩, 9) := ⟨⟨by decide +kernel, by decide +kernel⟩, List.mem_of_getElem? (i := 200) (by decide +kernel), List.mem_of_getElem? (i := 691) (by decide +kernel), List.mem_of_getElem? (i := 692) (by decide +kernel)⟩
theorem lw_p13 : lw_okq (⟨"PileSteadier$Tape", "step", "()V"⟩, 9) := ⟨⟨by decide +kernel, by decide +kernel⟩, List.mem_of_getElem? (i := 200) (by decide +kernel), List.mem_of_getElem? (i := 695) (by decide +kernel), List.mem_of_getElem? (i := 696) (by decide +kernel)⟩
theorem lw_p14 : lw_okq (⟨"PileSteadier$Tape", "readWord", "()V"⟩, 9) := ⟨⟨by decide +kernel, by decide +kernel⟩, List.mem_of_getElem? (i := 200) (by decide +kernel), List.mem_of_getElem? (i := 702) (by decide +kernel), List.mem_of_getElem? (i := 703) (by decide +kernel)⟩
theorem lw_p15 : lw_okq (⟨"PileSteadier$Tape", "isWord", "(Ljava/lang/String;)Z"⟩, 9) := ⟨⟨by decide +kernel, by decide +kernel⟩, List.mem_of_getElem? (i := 200) (by decide +kernel), List.mem_of_getElem? (i := 707) (by decide +kernel), List.mem_of_getElem? (i := 708) (by decide +kernel)⟩
def lw_privs_1 : List (MethodName × Nat) := [(⟨"PileSteadier$Pile", "greatestTopUnder", "(LPileSteadier$Box;)I"⟩, 4), (⟨"PileSteadier$Pile", "noteContacts", "(I)V"⟩, 4), (⟨"PileSteadier$Balance", "handDown", "(I)V"⟩, 7), (⟨"PileSteadier$Balance", "takeOn", "(II)V"⟩, 7), (⟨"PileSteadier$Balance", "outline", "(I)V"⟩, 7), (⟨"PileSteadier$Polygon", "nextRound", "(I)I"⟩, 6), (⟨"PileSteadier", "isBoxAndOther", "(II)Z"⟩, 8), (⟨"PileSteadier", "settle", "()V"⟩, 8), (⟨"PileSteadier$Door", "findFree", "(LPileSteadier$Pile;)V"⟩, 5), (⟨"PileSteadier$Door", "findFirst", "(I)V"⟩, 5), (⟨"PileSteadier", "wouldStandAt", "(III)Z"⟩, 8), (⟨"PileSteadier", "firstFailingBump", "(II)I"⟩, 8), (⟨"PileSteadier$Tape", "readClause", "()Z"⟩, 9), (⟨"PileSteadier$Tape", "step", "()V"⟩, 9), (⟨"PileSteadier$Tape", "readWord", "()V"⟩, 9), (⟨"PileSteadier$Tape", "isWord", "(Ljava/lang/String;)Z"⟩, 9)]
theorem lw_r1 : ∀ q ∈ lw_privs_1, lw_okq q := List.forall_mem_cons.mpr ⟨lw_p0, List.forall_mem_cons.mpr ⟨lw_p1, List.forall_mem_cons.mpr ⟨lw_p2, List.forall_mem_cons.mpr ⟨lw_p3, List.forall_mem_cons.mpr ⟨lw_p4, List.forall_mem_cons.mpr ⟨lw_p5, List.forall_mem_cons.mpr ⟨lw_p6, List.forall_mem_cons.mpr ⟨lw_p7, List.forall_mem_cons.mpr ⟨lw_p8, List.forall_mem_cons.mpr ⟨lw_p9, List.forall_mem_cons.mpr ⟨lw_p10, List.forall_mem_cons.mpr ⟨lw_p11, List.forall_mem_cons.mpr ⟨lw_p12, List.forall_mem_cons.mpr ⟨lw_p13, List.forall_mem_cons.mpr ⟨lw_p14, List.forall_mem_cons.mpr ⟨lw_p15, fun _ h => absurd h List.not_mem_nil⟩⟩⟩⟩⟩⟩⟩⟩⟩⟩⟩⟩⟩⟩⟩⟩
theorem lw_p16 : lw_okq (⟨"PileSteadier$Tape", "readNumber", "()V"⟩, 9) := ⟨⟨by decide +kernel, by decide +kernel⟩, List.mem_of_getElem? (i := 200) (by decide +kernel), List.mem_of_getElem? (i := 765) (by decide +kernel), List.mem_of_getElem? (i := 766) (by decide +kernel)⟩
theorem lw_p17 : lw_okq (⟨"PileSteadier", "standingKinds", "(I)I"⟩, 8) := ⟨⟨by decide +kernel, by decide +kernel⟩, List.mem_of_getElem? (i := 19) (by decide +kernel), List.mem_of_getElem? (i := 780) (by decide +kernel), List.mem_of_getElem? (i := 781) (by decide +kernel)⟩
theorem lw_p18 : lw_okq (⟨"PileSteadierModel", "lays", "(IIIIII)V"⟩, 32) := ⟨⟨by decide +kernel, by decide +kernel⟩, List.mem_of_getElem? (i := 849) (by decide +kernel), List.mem_of_getElem? (i := 963) (by decide +kernel), List.mem_of_getElem? (i := 964) (by decide +kernel)⟩
theorem lw_p19 : lw_okq (⟨"PileSteadierModel", "there", "()I"⟩, 32) := ⟨⟨by decide +kernel, by decide +kernel⟩, List.mem_of_getElem? (i := 849) (by decide +kernel), List.mem_of_getElem? (i := 967) (by decide +kernel), List.mem_of_getElem? (i := 968) (by decide +kernel)⟩
theorem lw_p20 : lw_okq (⟨"PileSteadierModel", "overlap", "(II)I"⟩, 32) := ⟨⟨by decide +kernel, by decide +kernel⟩, List.mem_of_getElem? (i := 849) (by decide +kernel), List.mem_of_getElem? (i := 974) (by decide +kernel), List.mem_of_getElem? (i := 975) (by decide +kernel)⟩
theorem lw_p21 : lw_okq (⟨"PileSteadierModel", "alongX", "(II)I"⟩, 32) := ⟨⟨by decide +kernel, by decide +kernel⟩, List.mem_of_getElem? (i := 849) (by decide +kernel), List.mem_of_getElem? (i := 978) (by decide +kernel), List.mem_of_getElem? (i := 979) (by decide +kernel)⟩
theorem lw_p22 : lw_okq (⟨"PileSteadierModel", "alongY", "(II)I"⟩, 32) := ⟨⟨by decide +kernel, by decide +kernel⟩, List.mem_of_getElem? (i := 849) (by decide +kernel), List.mem_of_getElem? (i := 985) (by decide +kernel), List.mem_of_getElem? (i := 986) (by decide +kernel)⟩
theorem lw_p23 : lw_okq (⟨"PileSteadierModel", "top", "(I)I"⟩, 32) := ⟨⟨by decide +kernel, by decide +kernel⟩, List.mem_of_getElem? (i := 849) (by decide +kernel), List.mem_of_getElem? (i := 989) (by decide +kernel), List.mem_of_getElem? (i := 990) (by decide +kernel)⟩
theorem lw_p24 : lw_okq (⟨"PileSteadierModel", "isBox", "(I)Z"⟩, 32) := ⟨⟨by decide +kernel, by decide +kernel⟩, List.mem_of_getElem? (i := 849) (by decide +kernel), List.mem_of_getElem? (i := 1000) (by decide +kernel), List.mem_of_getElem? (i := 1001) (by decide +kernel)⟩
theorem lw_p25 : lw_okq (⟨"PileSteadierModel", "isThere", "(I)Z"⟩, 32) := ⟨⟨by decide +kernel, by decide +kernel⟩, List.mem_of_getElem? (i := 849) (by decide +kernel), List.mem_of_getElem? (i := 1014) (by decide +kernel), List.mem_of_getElem? (i := 1015) (by decide +kernel)⟩
theorem lw_p26 : lw_okq (⟨"PileSteadierModel", "isFree", "(II)Z"⟩, 32) := ⟨⟨by decide +kernel, by decide +kernel⟩, List.mem_of_getElem? (i := 849) (by decide +kernel), List.mem_of_getElem? (i := 1034) (by decide +kernel), List.mem_of_getElem? (i := 1035) (by decide +kernel)⟩
theorem lw_p27 : lw_okq (⟨"PileSteadierModel", "restingOn", "(II)I"⟩, 32) := ⟨⟨by decide +kernel, by decide +kernel⟩, List.mem_of_getElem? (i := 849) (by decide +kernel), List.mem_of_getElem? (i := 1038) (by decide +kernel), List.mem_of_getElem? (i := 1039) (by decide +kernel)⟩
theorem lw_p28 : lw_okq (⟨"PileSteadierModel", "contactOf", "(II)I"⟩, 32) := ⟨⟨by decide +kernel, by decide +kernel⟩, List.mem_of_getElem? (i := 849) (by decide +kernel), List.mem_of_getElem? (i := 1042) (by decide +kernel), List.mem_of_getElem? (i := 1043) (by decide +kernel)⟩
theorem lw_p29 : lw_okq (⟨"PileSteadierModel", "inWay", "(II)I"⟩, 32) := ⟨⟨by decide +kernel, by decide +kernel⟩, List.mem_of_getElem? (i := 849) (by decide +kernel), List.mem_of_getElem? (i := 1046) (by decide +kernel), List.mem_of_getElem? (i := 1047) (by decide +kernel)⟩
theorem lw_p30 : lw_okq (⟨"PileSteadierModel", "inHeight", "(II)I"⟩, 32) := ⟨⟨by decide +kernel, by decide +kernel⟩, List.mem_of_getElem? (i := 849) (by decide +kernel), List.mem_of_getElem? (i := 1050) (by decide +kernel), List.mem_of_getElem? (i := 1051) (by decide +kernel)⟩
theorem lw_p31 : lw_okq (⟨"PileSteadierModel", "failing", "(III)I"⟩, 32) := ⟨⟨by decide +kernel, by decide +kernel⟩, List.mem_of_getElem? (i := 849) (by decide +kernel), List.mem_of_getElem? (i := 1054) (by decide +kernel), List.mem_of_getElem? (i := 1055) (by decide +kernel)⟩
def lw_privs_2 : List (MethodName × Nat) := [(⟨"PileSteadier$Tape", "readNumber", "()V"⟩, 9), (⟨"PileSteadier", "standingKinds", "(I)I"⟩, 8), (⟨"PileSteadierModel", "lays", "(IIIIII)V"⟩, 32), (⟨"PileSteadierModel", "there", "()I"⟩, 32), (⟨"PileSteadierModel", "overlap", "(II)I"⟩, 32), (⟨"PileSteadierModel", "alongX", "(II)I"⟩, 32), (⟨"PileSteadierModel", "alongY", "(II)I"⟩, 32), (⟨"PileSteadierModel", "top", "(I)I"⟩, 32), (⟨"PileSteadierModel", "isBox", "(I)Z"⟩, 32), (⟨"PileSteadierModel", "isThere", "(I)Z"⟩, 32), (⟨"PileSteadierModel", "isFree", "(II)Z"⟩, 32), (⟨"PileSteadierModel", "restingOn", "(II)I"⟩, 32), (⟨"PileSteadierModel", "contactOf", "(II)I"⟩, 32), (⟨"PileSteadierModel", "inWay", "(II)I"⟩, 32), (⟨"PileSteadierModel", "inHeight", "(II)I"⟩, 32), (⟨"PileSteadierModel", "failing", "(III)I"⟩, 32)]
theorem lw_r2 : ∀ q ∈ lw_privs_2, lw_okq q := List.forall_mem_cons.mpr ⟨lw_p16, List.forall_mem_cons.mpr ⟨lw_p17, List.forall_mem_cons.mpr ⟨lw_p18, List.forall_mem_cons.mpr ⟨lw_p19, List.forall_mem_cons.mpr ⟨lw_p20, List.forall_mem_cons.mpr ⟨lw_p21, List.forall_mem_cons.mpr ⟨lw_p22, List.forall_mem_cons.mpr ⟨lw_p23, List.forall_mem_cons.mpr ⟨lw_p24, List.forall_mem_cons.mpr ⟨lw_p25, List.forall_mem_cons.mpr ⟨lw_p26, List.forall_mem_cons.mpr ⟨lw_p27, List.forall_mem_cons.mpr ⟨lw_p28, List.forall_mem_cons.mpr ⟨lw_p29, List.forall_mem_cons.mpr ⟨lw_p30, List.forall_mem_cons.mpr ⟨lw_p31, fun _ h => absurd h List.not_mem_nil⟩⟩⟩⟩⟩⟩⟩⟩⟩⟩⟩⟩⟩⟩⟩⟩
theorem lw_p32 : lw_okq (⟨"PileSteadierModel", "loadAll", "(I)V"⟩, 32) := ⟨⟨by decide +kernel, by decide +kernel⟩, List.mem_of_getElem? (i := 849) (by decide +kernel), List.mem_of_getElem? (i := 1058) (by decide +kernel), List.mem_of_getElem? (i := 1059) (by decide +kernel)⟩
theorem lw_p33 : lw_okq (⟨"PileSteadierModel", "handsDown", "(II)V"⟩, 32) := ⟨⟨by decide +kernel, by decide +kernel⟩, List.mem_of_getElem? (i := 849) (by decide +kernel), List.mem_of_getElem? (i := 1062) (by decide +kernel), List.mem_of_getElem? (i := 1063) (by decide +kernel)⟩
theorem lw_p34 : lw_okq (⟨"PileSteadierModel", "isHeld", "(II)Z"⟩, 32) := ⟨⟨by decide +kernel, by decide +kernel⟩, List.mem_of_getElem? (i := 849) (by decide +kernel), List.mem_of_getElem? (i := 1066) (by decide +kernel), List.mem_of_getElem? (i := 1067) (by decide +kernel)⟩
theorem lw_p35 : lw_okq (⟨"PileSteadierModel", "liesOf", "(IIII)I"⟩, 32) := ⟨⟨by decide +kernel, by decide +kernel⟩, List.mem_of_getElem? (i := 849) (by decide +kernel), List.mem_of_getElem? (i := 1070) (by decide +kernel), List.mem_of_getElem? (i := 1071) (by decide +kernel)⟩
theorem lw_p36 : lw_okq (⟨"PileSteadierModel", "findPolygon", "(II)V"⟩, 32) := ⟨⟨by decide +kernel, by decide +kernel⟩, List.mem_of_getElem? (i := 849) (by decide +kernel), List.mem_of_getElem? (i := 1074) (by decide +kernel), List.mem_of_getElem? (i := 1075) (by decide +kernel)⟩
theorem lw_p37 : lw_okq (⟨"PileSteadierModel", "rectangle", "(IIII)V"⟩, 32) := ⟨⟨by decide +kernel, by decide +kernel⟩, List.mem_of_getElem? (i := 849) (by decide +kernel), List.mem_of_getElem? (i := 1078) (by decide +kernel), List.mem_of_getElem? (i := 1079) (by decide +kernel)⟩
theorem lw_p38 : lw_okq (⟨"PileSteadierModel", "point", "(II)V"⟩, 32) := ⟨⟨by decide +kernel, by decide +kernel⟩, List.mem_of_getElem? (i := 849) (by decide +kernel), List.mem_of_getElem? (i := 1082) (by decide +kernel), List.mem_of_getElem? (i := 1083) (by decide +kernel)⟩
theorem lw_p39 : lw_okq (⟨"PileSteadierModel", "turns", "(III)V"⟩, 32) := ⟨⟨by decide +kernel, by decide +kernel⟩, List.mem_of_getElem? (i := 849) (by decide +kernel), List.mem_of_getElem? (i := 1089) (by decide +kernel), List.mem_of_getElem? (i := 1090) (by decide +kernel)⟩
theorem lw_p40 : lw_okq (⟨"PileSteadierModel", "cross", "(IIII)I"⟩, 32) := ⟨⟨by decide +kernel, by decide +kernel⟩, List.mem_of_getElem? (i := 849) (by decide +kernel), List.mem_of_getElem? (i := 1093) (by decide +kernel), List.mem_of_getElem? (i := 1094) (by decide +kernel)⟩
theorem lw_p41 : lw_okq (⟨"PileSteadierModel", "centreOf", "(III)I"⟩, 32) := ⟨⟨by decide +kernel, by decide +kernel⟩, List.mem_of_getElem? (i := 849) (by decide +kernel), List.mem_of_getElem? (i := 1098) (by decide +kernel), List.mem_of_getElem? (i := 1099) (by decide +kernel)⟩
theorem lw_p42 : lw_okq (⟨"PileSteadierModel", "liesAt", "(JJJ)I"⟩, 32) := ⟨⟨by decide +kernel, by decide +kernel⟩, List.mem_of_getElem? (i := 849) (by decide +kernel), List.mem_of_getElem? (i := 1104) (by decide +kernel), List.mem_of_getElem? (i := 1105) (by decide +kernel)⟩
theorem lw_p43 : lw_okq (⟨"PileSteadierModel", "below", "(I)I"⟩, 32) := ⟨⟨by decide +kernel, by decide +kernel⟩, List.mem_of_getElem? (i := 849) (by decide +kernel), List.mem_of_getElem? (i := 1118) (by decide +kernel), List.mem_of_getElem? (i := 1119) (by decide +kernel)⟩
theorem lw_p44 : lw_okq (⟨"PileSteadierModel", "causeOf", "(I)I"⟩, 32) := ⟨⟨by decide +kernel, by decide +kernel⟩, List.mem_of_getElem? (i := 849) (by decide +kernel), List.mem_of_getElem? (i := 1165) (by decide +kernel), List.mem_of_getElem? (i := 1166) (by decide +kernel)⟩
theorem lw_p45 : lw_okq (⟨"PileSteadierModel", "findLine", "()V"⟩, 32) := ⟨⟨by decide +kernel, by decide +kernel⟩, List.mem_of_getElem? (i := 849) (by decide +kernel), List.mem_of_getElem? (i := 1189) (by decide +kernel), List.mem_of_getElem? (i := 1190) (by decide +kernel)⟩
theorem lw_p46 : lw_okq (⟨"PileSteadierModel", "findWays", "()V"⟩, 32) := ⟨⟨by decide +kernel, by decide +kernel⟩, List.mem_of_getElem? (i := 849) (by decide +kernel), List.mem_of_getElem? (i := 1193) (by decide +kernel), List.mem_of_getElem? (i := 1194) (by decide +kernel)⟩
theorem lw_p47 : lw_okq (⟨"PileSteadierModel", "canCome", "(IIII)Z"⟩, 32) := ⟨⟨by decide +kernel, by decide +kernel⟩, List.mem_of_getElem? (i := 849) (by decide +kernel), List.mem_of_getElem? (i := 1205) (by decide +kernel), List.mem_of_getElem? (i := 1206) (by decide +kernel)⟩
def lw_privs_3 : List (MethodName × Nat) := [(⟨"PileSteadierModel", "loadAll", "(I)V"⟩, 32), (⟨"PileSteadierModel", "handsDown", "(II)V"⟩, 32), (⟨"PileSteadierModel", "isHeld", "(II)Z"⟩, 32), (⟨"PileSteadierModel", "liesOf", "(IIII)I"⟩, 32), (⟨"PileSteadierModel", "findPolygon", "(II)V"⟩, 32), (⟨"PileSteadierModel", "rectangle", "(IIII)V"⟩, 32), (⟨"PileSteadierModel", "point", "(II)V"⟩, 32), (⟨"PileSteadierModel", "turns", "(III)V"⟩, 32), (⟨"PileSteadierModel", "cross", "(IIII)I"⟩, 32), (⟨"PileSteadierModel", "centreOf", "(III)I"⟩, 32), (⟨"PileSteadierModel", "liesAt", "(JJJ)I"⟩, 32), (⟨"PileSteadierModel", "below", "(I)I"⟩, 32), (⟨"PileSteadierModel", "causeOf", "(I)I"⟩, 32), (⟨"PileSteadierModel", "findLine", "()V"⟩, 32), (⟨"PileSteadierModel", "findWays", "()V"⟩, 32), (⟨"PileSteadierModel", "canCome", "(IIII)Z"⟩, 32)]
theorem lw_r3 : ∀ q ∈ lw_privs_3, lw_okq q := List.forall_mem_cons.mpr ⟨lw_p32, List.forall_mem_cons.mpr ⟨lw_p33, List.forall_mem_cons.mpr ⟨lw_p34, List.forall_mem_cons.mpr ⟨lw_p35, List.forall_mem_cons.mpr ⟨lw_p36, List.forall_mem_cons.mpr ⟨lw_p37, List.forall_mem_cons.mpr ⟨lw_p38, List.forall_mem_cons.mpr ⟨lw_p39, List.forall_mem_cons.mpr ⟨lw_p40, List.forall_mem_cons.mpr ⟨lw_p41, List.forall_mem_cons.mpr ⟨lw_p42, List.forall_mem_cons.mpr ⟨lw_p43, List.forall_mem_cons.mpr ⟨lw_p44, List.forall_mem_cons.mpr ⟨lw_p45, List.forall_mem_cons.mpr ⟨lw_p46, List.forall_mem_cons.mpr ⟨lw_p47, fun _ h => absurd h List.not_mem_nil⟩⟩⟩⟩⟩⟩⟩⟩⟩⟩⟩⟩⟩⟩⟩⟩
theorem lw_p48 : lw_okq (⟨"PileSteadierModel", "bumped", "(II)I"⟩, 32) := ⟨⟨by decide +kernel, by decide +kernel⟩, List.mem_of_getElem? (i := 849) (by decide +kernel), List.mem_of_getElem? (i := 1213) (by decide +kernel), List.mem_of_getElem? (i := 1214) (by decide +kernel)⟩
theorem lw_p49 : lw_okq (⟨"PileSteadierModel", "reads", "(Z)I"⟩, 32) := ⟨⟨by decide +kernel, by decide +kernel⟩, List.mem_of_getElem? (i := 849) (by decide +kernel), List.mem_of_getElem? (i := 1230) (by decide +kernel), List.mem_of_getElem? (i := 1231) (by decide +kernel)⟩
theorem lw_p50 : lw_okq (⟨"PileSteadierModel", "clause", "()I"⟩, 32) := ⟨⟨by decide +kernel, by decide +kernel⟩, List.mem_of_getElem? (i := 849) (by decide +kernel), List.mem_of_getElem? (i := 1234) (by decide +kernel), List.mem_of_getElem? (i := 1235) (by decide +kernel)⟩
theorem lw_p51 : lw_okq (⟨"PileSteadierModel", "token", "()I"⟩, 32) := ⟨⟨by decide +kernel, by decide +kernel⟩, List.mem_of_getElem? (i := 849) (by decide +kernel), List.mem_of_getElem? (i := 1238) (by decide +kernel), List.mem_of_getElem? (i := 1239) (by decide +kernel)⟩
theorem lw_p52 : lw_okq (⟨"PileSteadierModel", "isSort", "(II)Z"⟩, 32) := ⟨⟨by decide +kernel, by decide +kernel⟩, List.mem_of_getElem? (i := 849) (by decide +kernel), List.mem_of_getElem? (i := 1242) (by decide +kernel), List.mem_of_getElem? (i := 1243) (by decide +kernel)⟩
theorem lw_p53 : lw_okq (⟨"PileSteadierModel", "wordOf", "()I"⟩, 32) := ⟨⟨by decide +kernel, by decide +kernel⟩, List.mem_of_getElem? (i := 849) (by decide +kernel), List.mem_of_getElem? (i := 1246) (by decide +kernel), List.mem_of_getElem? (i := 1247) (by decide +kernel)⟩
theorem lw_p54 : lw_okq (⟨"PileSteadierModel", "isDone", "(I)Z"⟩, 32) := ⟨⟨by decide +kernel, by decide +kernel⟩, List.mem_of_getElem? (i := 849) (by decide +kernel), List.mem_of_getElem? (i := 1250) (by decide +kernel), List.mem_of_getElem? (i := 1251) (by decide +kernel)⟩
theorem lw_p55 : lw_okq (⟨"PileSteadierModel", "kindsOf", "(I)I"⟩, 32) := ⟨⟨by decide +kernel, by decide +kernel⟩, List.mem_of_getElem? (i := 849) (by decide +kernel), List.mem_of_getElem? (i := 1262) (by decide +kernel), List.mem_of_getElem? (i := 1263) (by decide +kernel)⟩
theorem lw_p56 : lw_okq (⟨"PileSteadierModel", "judges", "(I)V"⟩, 32) := ⟨⟨by decide +kernel, by decide +kernel⟩, List.mem_of_getElem? (i := 849) (by decide +kernel), List.mem_of_getElem? (i := 1269) (by decide +kernel), List.mem_of_getElem? (i := 1270) (by decide +kernel)⟩
theorem lw_p57 : lw_okq (⟨"PileSteadierModel", "weights", "()I"⟩, 32) := ⟨⟨by decide +kernel, by decide +kernel⟩, List.mem_of_getElem? (i := 849) (by decide +kernel), List.mem_of_getElem? (i := 1294) (by decide +kernel), List.mem_of_getElem? (i := 1295) (by decide +kernel)⟩
theorem lw_p58 : lw_okq (⟨"PileSteadierModel", "twos", "()I"⟩, 32) := ⟨⟨by decide +kernel, by decide +kernel⟩, List.mem_of_getElem? (i := 849) (by decide +kernel), List.mem_of_getElem? (i := 1298) (by decide +kernel), List.mem_of_getElem? (i := 1299) (by decide +kernel)⟩
theorem lw_p59 : lw_okq (⟨"PileSteadierModel", "toFloor", "()I"⟩, 32) := ⟨⟨by decide +kernel, by decide +kernel⟩, List.mem_of_getElem? (i := 849) (by decide +kernel), List.mem_of_getElem? (i := 1302) (by decide +kernel), List.mem_of_getElem? (i := 1303) (by decide +kernel)⟩
def lw_privs_4 : List (MethodName × Nat) := [(⟨"PileSteadierModel", "bumped", "(II)I"⟩, 32), (⟨"PileSteadierModel", "reads", "(Z)I"⟩, 32), (⟨"PileSteadierModel", "clause", "()I"⟩, 32), (⟨"PileSteadierModel", "token", "()I"⟩, 32), (⟨"PileSteadierModel", "isSort", "(II)Z"⟩, 32), (⟨"PileSteadierModel", "wordOf", "()I"⟩, 32), (⟨"PileSteadierModel", "isDone", "(I)Z"⟩, 32), (⟨"PileSteadierModel", "kindsOf", "(I)I"⟩, 32), (⟨"PileSteadierModel", "judges", "(I)V"⟩, 32), (⟨"PileSteadierModel", "weights", "()I"⟩, 32), (⟨"PileSteadierModel", "twos", "()I"⟩, 32), (⟨"PileSteadierModel", "toFloor", "()I"⟩, 32)]
theorem lw_r4 : ∀ q ∈ lw_privs_4, lw_okq q := List.forall_mem_cons.mpr ⟨lw_p48, List.forall_mem_cons.mpr ⟨lw_p49, List.forall_mem_cons.mpr ⟨lw_p50, List.forall_mem_cons.mpr ⟨lw_p51, List.forall_mem_cons.mpr ⟨lw_p52, List.forall_mem_cons.mpr ⟨lw_p53, List.forall_mem_cons.mpr ⟨lw_p54, List.forall_mem_cons.mpr ⟨lw_p55, List.forall_mem_cons.mpr ⟨lw_p56, List.forall_mem_cons.mpr ⟨lw_p57, List.forall_mem_cons.mpr ⟨lw_p58, List.forall_mem_cons.mpr ⟨lw_p59, fun _ h => absurd h List.not_mem_nil⟩⟩⟩⟩⟩⟩⟩⟩⟩⟩⟩⟩
def lw_privs : List (MethodName × Nat) := lw_privs_1 ++ (lw_privs_2 ++ (lw_privs_3 ++ (lw_privs_4)))
def lw_tbl : List Cond := k2_sels lw_privs ++ tables_1
theorem lw_privs_ok : ∀ q ∈ lw_privs, lw_okq q := by
  show ∀ q ∈ lw_privs_1 ++ (lw_privs_2 ++ (lw_privs_3 ++ (lw_privs_4))), lw_okq q
  exact List.forall_mem_append.mpr ⟨lw_r1, List.forall_mem_append.mpr ⟨lw_r2, List.forall_mem_append.mpr ⟨lw_r3, lw_r4⟩⟩⟩

-- ===== names (begun from claim/NAMES.whole.lean.txt) =====
def RX0 : String := "PileSteadier$Balance"
def TX0 : u_T := fun k => match k with
  | 0 => ("PileSteadier$Balance", "loads", "[I", true)
  | 1 => ("PileSteadier$Balance", "parts", "[[I", true)
  | 2 => ("PileSteadier$Balance", "momentsX", "[J", true)
  | 3 => ("PileSteadier$Balance", "momentsY", "[J", true)
  | 4 => ("PileSteadier$Balance", "polygons", "[LPileSteadier$Polygon;", true)
  | 5 => ("PileSteadier$Balance", "pile", "LPileSteadier$Pile;", false)
  | _ => ("PileSteadier$Balance", "present", "I", false)
def tyX0 : Nat → FieldType := fun k => match k with
  | 0 => .array .int
  | 1 => .array (.array .int)
  | 2 => .array .long
  | 3 => .array .long
  | 4 => .array (.object "PileSteadier$Polygon")
  | 5 => .object "PileSteadier$Pile"
  | _ => .int
abbrev wsX00 : List Cond := u_ws RX0 TX0 7
theorem nmX0 : ∀ a, a < 7 → ∀ b, b < 7 → a ≠ b → (TX0 a).2.1 ≠ (TX0 b).2.1 := by decide +kernel
theorem tyX0_ok : ∀ k, k < 7 → parseFieldDescriptor (TX0 k).2.2.1 = some (tyX0 k) := by decide +kernel
def RX1 : String := "PileSteadier$Box"
def TX1 : u_T := fun k => match k with
  | 0 => ("PileSteadier$Box", "kind", "I", false)
  | 1 => ("PileSteadier$Box", "figure", "I", false)
  | 2 => ("PileSteadier$Box", "x", "I", false)
  | 3 => ("PileSteadier$Box", "y", "I", false)
  | 4 => ("PileSteadier$Box", "z", "I", false)
  | 5 => ("PileSteadier$Box", "w", "I", false)
  | 6 => ("PileSteadier$Box", "d", "I", false)
  | 7 => ("PileSteadier$Box", "h", "I", false)
  | _ => ("PileSteadier$Box", "weight", "I", false)
def tyX1 : Nat → FieldType := fun k => match k with
  | 0 => .int
  | 1 => .int
  | 2 => .int
  | 3 => .int
  | 4 => .int
  | 5 => .int
  | 6 => .int
  | 7 => .int
  | _ => .int
abbrev wsX10 : List Cond := u_ws RX1 TX1 9
theorem nmX1 : ∀ a, a < 9 → ∀ b, b < 9 → a ≠ b → (TX1 a).2.1 ≠ (TX1 b).2.1 := by decide +kernel
theorem tyX1_ok : ∀ k, k < 9 → parseFieldDescriptor (TX1 k).2.2.1 = some (tyX1 k) := by decide +kernel
def RX2 : String := "PileSteadier$Door"
def TX2 : u_T := fun k => match k with
  | 0 => ("PileSteadier$Door", "balance", "LPileSteadier$Balance;", true)
  | 1 => ("PileSteadier$Door", "failing", "[I", true)
  | 2 => ("PileSteadier$Door", "free", "[I", true)
  | 3 => ("PileSteadier$Door", "orders", "[I", true)
  | _ => ("PileSteadier$Door", "first", "[I", true)
def tyX2 : Nat → FieldType := fun k => match k with
  | 0 => .object "PileSteadier$Balance"
  | 1 => .array .int
  | 2 => .array .int
  | 3 => .array .int
  | _ => .array .int
abbrev wsX20 : List Cond := u_ws RX2 TX2 5
theorem nmX2 : ∀ a, a < 5 → ∀ b, b < 5 → a ≠ b → (TX2 a).2.1 ≠ (TX2 b).2.1 := by decide +kernel
theorem tyX2_ok : ∀ k, k < 5 → parseFieldDescriptor (TX2 k).2.2.1 = some (tyX2 k) := by decide +kernel
def RX3 : String := "PileSteadier$Pile"
def TX3 : u_T := fun k => match k with
  | 0 => ("PileSteadier$Pile", "boxes", "[LPileSteadier$Box;", true)
  | 1 => ("PileSteadier$Pile", "contacts", "[[I", true)
  | 2 => ("PileSteadier$Pile", "came", "I", false)
  | _ => ("PileSteadier$Pile", "there", "I", false)
def tyX3 : Nat → FieldType := fun k => match k with
  | 0 => .array (.object "PileSteadier$Box")
  | 1 => .array (.array .int)
  | 2 => .int
  | _ => .int
abbrev wsX30 : List Cond := u_ws RX3 TX3 4
theorem nmX3 : ∀ a, a < 4 → ∀ b, b < 4 → a ≠ b → (TX3 a).2.1 ≠ (TX3 b).2.1 := by decide +kernel
theorem tyX3_ok : ∀ k, k < 4 → parseFieldDescriptor (TX3 k).2.2.1 = some (tyX3 k) := by decide +kernel
def RX4 : String := "PileSteadier$Polygon"
def TX4 : u_T := fun k => match k with
  | 0 => ("PileSteadier$Polygon", "pointX", "[I", true)
  | 1 => ("PileSteadier$Polygon", "pointY", "[I", true)
  | 2 => ("PileSteadier$Polygon", "cornerX", "[I", true)
  | 3 => ("PileSteadier$Polygon", "cornerY", "[I", true)
  | 4 => ("PileSteadier$Polygon", "points", "I", false)
  | _ => ("PileSteadier$Polygon", "corners", "I", false)
def tyX4 : Nat → FieldType := fun k => match k with
  | 0 => .array .int
  | 1 => .array .int
  | 2 => .array .int
  | 3 => .array .int
  | 4 => .int
  | _ => .int
abbrev wsX40 : List Cond := u_ws RX4 TX4 6
theorem nmX4 : ∀ a, a < 6 → ∀ b, b < 6 → a ≠ b → (TX4 a).2.1 ≠ (TX4 b).2.1 := by decide +kernel
theorem tyX4_ok : ∀ k, k < 6 → parseFieldDescriptor (TX4 k).2.2.1 = some (tyX4 k) := by decide +kernel
def RX5 : String := "PileSteadier$Sheet"
def TX5 : u_T := fun k => match k with
  | 0 => ("PileSteadier$Sheet", "items", "[I", true)
  | 1 => ("PileSteadier$Sheet", "sort", "I", false)
  | _ => ("PileSteadier$Sheet", "size", "I", false)
def tyX5 : Nat → FieldType := fun k => match k with
  | 0 => .array .int
  | 1 => .int
  | _ => .int
abbrev wsX50 : List Cond := u_ws RX5 TX5 3
theorem nmX5 : ∀ a, a < 3 → ∀ b, b < 3 → a ≠ b → (TX5 a).2.1 ≠ (TX5 b).2.1 := by decide +kernel
theorem tyX5_ok : ∀ k, k < 3 → parseFieldDescriptor (TX5 k).2.2.1 = some (tyX5 k) := by decide +kernel
def RX6 : String := "PileSteadier$Tape"
def TX6 : u_T := fun k => match k with
  | 0 => ("PileSteadier$Tape", "bytes", "[I", true)
  | 1 => ("PileSteadier$Tape", "size", "I", false)
  | 2 => ("PileSteadier$Tape", "words", "[I", true)
  | 3 => ("PileSteadier$Tape", "numbers", "[[I", true)
  | 4 => ("PileSteadier$Tape", "clauses", "I", false)
  | 5 => ("PileSteadier$Tape", "token", "I", false)
  | 6 => ("PileSteadier$Tape", "start", "I", false)
  | 7 => ("PileSteadier$Tape", "value", "I", false)
  | _ => ("PileSteadier$Tape", "at", "I", false)
def tyX6 : Nat → FieldType := fun k => match k with
  | 0 => .array .int
  | 1 => .int
  | 2 => .array .int
  | 3 => .array (.array .int)
  | 4 => .int
  | 5 => .int
  | 6 => .int
  | 7 => .int
  | _ => .int
abbrev wsX60 : List Cond := u_ws RX6 TX6 9
theorem nmX6 : ∀ a, a < 9 → ∀ b, b < 9 → a ≠ b → (TX6 a).2.1 ≠ (TX6 b).2.1 := by decide +kernel
theorem tyX6_ok : ∀ k, k < 9 → parseFieldDescriptor (TX6 k).2.2.1 = some (tyX6 k) := by decide +kernel
def RX7 : String := "PileSteadier"
def TX7 : u_T := fun k => match k with
  | 0 => ("PileSteadier", "pile", "LPileSteadier$Pile;", true)
  | 1 => ("PileSteadier", "image", "LPileSteadier$Pile;", true)
  | 2 => ("PileSteadier", "thought", "LPileSteadier$Pile;", true)
  | 3 => ("PileSteadier", "balance", "LPileSteadier$Balance;", true)
  | 4 => ("PileSteadier", "door", "LPileSteadier$Door;", true)
  | 5 => ("PileSteadier", "tape", "LPileSteadier$Tape;", true)
  | 6 => ("PileSteadier", "sheets", "[LPileSteadier$Sheet;", true)
  | _ => ("PileSteadier", "imageKept", "Z", false)
def tyX7 : Nat → FieldType := fun k => match k with
  | 0 => .object "PileSteadier$Pile"
  | 1 => .object "PileSteadier$Pile"
  | 2 => .object "PileSteadier$Pile"
  | 3 => .object "PileSteadier$Balance"
  | 4 => .object "PileSteadier$Door"
  | 5 => .object "PileSteadier$Tape"
  | 6 => .array (.object "PileSteadier$Sheet")
  | _ => .boolean
abbrev wsX70 : List Cond := u_ws RX7 TX7 8
theorem nmX7 : ∀ a, a < 8 → ∀ b, b < 8 → a ≠ b → (TX7 a).2.1 ≠ (TX7 b).2.1 := by decide +kernel
theorem tyX7_ok : ∀ k, k < 8 → parseFieldDescriptor (TX7 k).2.2.1 = some (tyX7 k) := by decide +kernel
def RX8 : String := "PileSteadierModel"
def TX8 : u_T := fun k => match k with
  | 0 => ("PileSteadierModel", "g", "[I", true)
  | 1 => ("PileSteadierModel", "kept", "[I", true)
  | 2 => ("PileSteadierModel", "isKept", "Z", false)
  | 3 => ("PileSteadierModel", "loads", "[I", true)
  | 4 => ("PileSteadierModel", "parts", "[I", true)
  | 5 => ("PileSteadierModel", "hx", "[I", true)
  | 6 => ("PileSteadierModel", "hy", "[I", true)
  | 7 => ("PileSteadierModel", "px", "[I", true)
  | 8 => ("PileSteadierModel", "py", "[I", true)
  | 9 => ("PileSteadierModel", "points", "I", false)
  | 10 => ("PileSteadierModel", "corners", "I", false)
  | 11 => ("PileSteadierModel", "falling", "I", false)
  | 12 => ("PileSteadierModel", "crushed", "I", false)
  | 13 => ("PileSteadierModel", "tipping", "I", false)
  | 14 => ("PileSteadierModel", "sliding", "I", false)
  | 15 => ("PileSteadierModel", "ways", "[I", true)
  | 16 => ("PileSteadierModel", "line", "[I", true)
  | 17 => ("PileSteadierModel", "lined", "I", false)
  | 18 => ("PileSteadierModel", "tape", "[I", true)
  | 19 => ("PileSteadierModel", "told", "[I", true)
  | 20 => ("PileSteadierModel", "numbers", "[I", true)
  | 21 => ("PileSteadierModel", "words", "[C", true)
  | 22 => ("PileSteadierModel", "taped", "I", false)
  | 23 => ("PileSteadierModel", "at", "I", false)
  | 24 => ("PileSteadierModel", "from", "I", false)
  | 25 => ("PileSteadierModel", "length", "I", false)
  | 26 => ("PileSteadierModel", "sorts", "[I", true)
  | 27 => ("PileSteadierModel", "sizes", "[I", true)
  | 28 => ("PileSteadierModel", "items", "[I", true)
  | 29 => ("PileSteadierModel", "judged", "I", false)
  | 30 => ("PileSteadierModel", "left", "I", false)
  | _ => ("PileSteadierModel", "moved", "[I", true)
def tyX8 : Nat → FieldType := fun k => match k with
  | 0 => .array .int
  | 1 => .array .int
  | 2 => .boolean
  | 3 => .array .int
  | 4 => .array .int
  | 5 => .array .int
  | 6 => .array .int
  | 7 => .array .int
  | 8 => .array .int
  | 9 => .int
  | 10 => .int
  | 11 => .int
  | 12 => .int
  | 13 => .int
  | 14 => .int
  | 15 => .array .int
  | 16 => .array .int
  | 17 => .int
  | 18 => .array .int
  | 19 => .array .int
  | 20 => .array .int
  | 21 => .array .char
  | 22 => .int
  | 23 => .int
  | 24 => .int
  | 25 => .int
  | 26 => .array .int
  | 27 => .array .int
  | 28 => .array .int
  | 29 => .int
  | 30 => .int
  | _ => .array .int
abbrev wsX80 : List Cond := u_ws RX8 TX8 32
theorem nmX8 : ∀ a, a < 32 → ∀ b, b < 32 → a ≠ b → (TX8 a).2.1 ≠ (TX8 b).2.1 := by decide +kernel
theorem tyX8_ok : ∀ k, k < 32 → parseFieldDescriptor (TX8 k).2.2.1 = some (tyX8 k) := by decide +kernel
def RJ6 : String := "java/lang/Integer"
def RJ9 : String := "java/lang/Math"
def RJ0 : String := "java/lang/String"
def RJ1 : String := "java/lang/StringLatin1"
def RJ2 : String := "java/lang/StringUTF16"
def RJ10 : String := "java/lang/System"
def RJ7 : String := "java/util/Arrays"
def RJ3 : String := "jdk/internal/util/Preconditions"
def RL : String := "PileSteadierLaw"
abbrev cX0_init : ByteArray := prog_2_method_1_code
def yX0_init : MethodName := ⟨RX0, "<init>", "()V"⟩
abbrev cX0_settle : ByteArray := prog_2_method_2_code
def yX0_settle : MethodName := ⟨RX0, "settle", "(LPileSteadier$Pile;I)V"⟩
abbrev cX0_handDown : ByteArray := prog_2_method_3_code
def yX0_handDown : MethodName := ⟨RX0, "handDown", "(I)V"⟩
abbrev cX0_takeOn : ByteArray := prog_2_method_4_code
def yX0_takeOn : MethodName := ⟨RX0, "takeOn", "(II)V"⟩
abbrev cX0_outline : ByteArray := prog_2_method_5_code
def yX0_outline : MethodName := ⟨RX0, "outline", "(I)V"⟩
abbrev cX0_heft : ByteArray := prog_2_method_6_code
def yX0_heft : MethodName := ⟨RX0, "heft", "(I)I"⟩
abbrev cX0_toFloor : ByteArray := prog_2_method_7_code
def yX0_toFloor : MethodName := ⟨RX0, "toFloor", "(I)I"⟩
abbrev cX0_allToFloor : ByteArray := prog_2_method_8_code
def yX0_allToFloor : MethodName := ⟨RX0, "allToFloor", "()I"⟩
abbrev cX0_placed : ByteArray := prog_2_method_9_code
def yX0_placed : MethodName := ⟨RX0, "placed", "(III)I"⟩
abbrev cX0_why : ByteArray := prog_2_method_10_code
def yX0_why : MethodName := ⟨RX0, "why", "(III)I"⟩
abbrev cX0_failing : ByteArray := prog_2_method_11_code
def yX0_failing : MethodName := ⟨RX0, "failing", "(II)I"⟩
abbrev cX0_whoFailsBy : ByteArray := prog_2_method_12_code
def yX0_whoFailsBy : MethodName := ⟨RX0, "whoFailsBy", "(I)I"⟩
abbrev cX0_heaviestOn : ByteArray := prog_2_method_13_code
def yX0_heaviestOn : MethodName := ⟨RX0, "heaviestOn", "(I)I"⟩
abbrev cX1_init : ByteArray := prog_3_method_1_code
def yX1_init : MethodName := ⟨RX1, "<init>", "()V"⟩
abbrev cX1_become : ByteArray := prog_3_method_2_code
def yX1_become : MethodName := ⟨RX1, "become", "(LPileSteadier$Box;)V"⟩
abbrev cX1_top : ByteArray := prog_3_method_3_code
def yX1_top : MethodName := ⟨RX1, "top", "()I"⟩
abbrev cX1_size : ByteArray := prog_3_method_4_code
def yX1_size : MethodName := ⟨RX1, "size", "()I"⟩
abbrev cX1_left : ByteArray := prog_3_method_5_code
def yX1_left : MethodName := ⟨RX1, "left", "(LPileSteadier$Box;)I"⟩
abbrev cX1_right : ByteArray := prog_3_method_6_code
def yX1_right : MethodName := ⟨RX1, "right", "(LPileSteadier$Box;)I"⟩
abbrev cX1_near : ByteArray := prog_3_method_7_code
def yX1_near : MethodName := ⟨RX1, "near", "(LPileSteadier$Box;)I"⟩
abbrev cX1_far : ByteArray := prog_3_method_8_code
def yX1_far : MethodName := ⟨RX1, "far", "(LPileSteadier$Box;)I"⟩
abbrev cX1_meetsAlongY : ByteArray := prog_3_method_9_code
def yX1_meetsAlongY : MethodName := ⟨RX1, "meetsAlongY", "(LPileSteadier$Box;)Z"⟩
abbrev cX1_meetsInHeight : ByteArray := prog_3_method_10_code
def yX1_meetsInHeight : MethodName := ⟨RX1, "meetsInHeight", "(LPileSteadier$Box;)Z"⟩
abbrev cX1_areaWith : ByteArray := prog_3_method_11_code
def yX1_areaWith : MethodName := ⟨RX1, "areaWith", "(LPileSteadier$Box;)I"⟩
abbrev cX1_isOnFloor : ByteArray := prog_3_method_12_code
def yX1_isOnFloor : MethodName := ⟨RX1, "isOnFloor", "()Z"⟩
abbrev cX1_floorContact : ByteArray := prog_3_method_13_code
def yX1_floorContact : MethodName := ⟨RX1, "floorContact", "()I"⟩
abbrev cX1_isOfKind : ByteArray := prog_3_method_14_code
def yX1_isOfKind : MethodName := ⟨RX1, "isOfKind", "(I)Z"⟩
abbrev cX1_bears : ByteArray := prog_3_method_15_code
def yX1_bears : MethodName := ⟨RX1, "bears", "()I"⟩
abbrev cX1_grip : ByteArray := prog_3_method_16_code
def yX1_grip : MethodName := ⟨RX1, "grip", "()I"⟩
abbrev cX1_ownCentreX : ByteArray := prog_3_method_17_code
def yX1_ownCentreX : MethodName := ⟨RX1, "ownCentreX", "()I"⟩
abbrev cX1_ownCentreY : ByteArray := prog_3_method_18_code
def yX1_ownCentreY : MethodName := ⟨RX1, "ownCentreY", "()I"⟩
abbrev cX2_init : ByteArray := prog_4_method_1_code
def yX2_init : MethodName := ⟨RX2, "<init>", "()V"⟩
abbrev cX2_begin : ByteArray := prog_4_method_2_code
def yX2_begin : MethodName := ⟨RX2, "begin", "()V"⟩
abbrev cX2_freeIn : ByteArray := prog_4_method_3_code
def yX2_freeIn : MethodName := ⟨RX2, "freeIn", "(LPileSteadier$Pile;I)I"⟩
abbrev cX2_findOrders : ByteArray := prog_4_method_4_code
def yX2_findOrders : MethodName := ⟨RX2, "findOrders", "(LPileSteadier$Pile;)I"⟩
abbrev cX2_findFree : ByteArray := prog_4_method_5_code
def yX2_findFree : MethodName := ⟨RX2, "findFree", "(LPileSteadier$Pile;)V"⟩
abbrev cX2_findFirst : ByteArray := prog_4_method_6_code
def yX2_findFirst : MethodName := ⟨RX2, "findFirst", "(I)V"⟩
abbrev cX3_init : ByteArray := prog_5_method_1_code
def yX3_init : MethodName := ⟨RX3, "<init>", "()V"⟩
abbrev cX3_become : ByteArray := prog_5_method_2_code
def yX3_become : MethodName := ⟨RX3, "become", "(LPileSteadier$Pile;)V"⟩
abbrev cX3_knows : ByteArray := prog_5_method_3_code
def yX3_knows : MethodName := ⟨RX3, "knows", "(I)Z"⟩
abbrev cX3_has : ByteArray := prog_5_method_4_code
def yX3_has : MethodName := ⟨RX3, "has", "(I)Z"⟩
abbrev cX3_receive : ByteArray := prog_5_method_5_code
def yX3_receive : MethodName := ⟨RX3, "receive", "(IIIII)I"⟩
abbrev cX3_greatestTopUnder : ByteArray := prog_5_method_6_code
def yX3_greatestTopUnder : MethodName := ⟨RX3, "greatestTopUnder", "(LPileSteadier$Box;)I"⟩
abbrev cX3_noteContacts : ByteArray := prog_5_method_7_code
def yX3_noteContacts : MethodName := ⟨RX3, "noteContacts", "(I)V"⟩
abbrev cX3_below : ByteArray := prog_5_method_8_code
def yX3_below : MethodName := ⟨RX3, "below", "(II)I"⟩
abbrev cX3_above : ByteArray := prog_5_method_9_code
def yX3_above : MethodName := ⟨RX3, "above", "(II)I"⟩
abbrev cX3_inWay : ByteArray := prog_5_method_10_code
def yX3_inWay : MethodName := ⟨RX3, "inWay", "(II)I"⟩
abbrev cX3_weightOfAll : ByteArray := prog_5_method_11_code
def yX3_weightOfAll : MethodName := ⟨RX3, "weightOfAll", "()I"⟩
abbrev cX3_restingPairs : ByteArray := prog_5_method_12_code
def yX3_restingPairs : MethodName := ⟨RX3, "restingPairs", "()I"⟩
abbrev cX4_init : ByteArray := prog_6_method_1_code
def yX4_init : MethodName := ⟨RX4, "<init>", "()V"⟩
abbrev cX4_clear : ByteArray := prog_6_method_2_code
def yX4_clear : MethodName := ⟨RX4, "clear", "()V"⟩
abbrev cX4_add : ByteArray := prog_6_method_3_code
def yX4_add : MethodName := ⟨RX4, "add", "(LPileSteadier$Box;LPileSteadier$Box;)V"⟩
abbrev cX4_wrap : ByteArray := prog_6_method_4_code
def yX4_wrap : MethodName := ⟨RX4, "wrap", "()V"⟩
abbrev cX4_nextRound : ByteArray := prog_6_method_5_code
def yX4_nextRound : MethodName := ⟨RX4, "nextRound", "(I)I"⟩
abbrev cX4_holds : ByteArray := prog_6_method_6_code
def yX4_holds : MethodName := ⟨RX4, "holds", "(JJJ)I"⟩
abbrev cX5_init : ByteArray := prog_7_method_1_code
def yX5_init : MethodName := ⟨RX5, "<init>", "()V"⟩
abbrev cX5_become : ByteArray := prog_7_method_2_code
def yX5_become : MethodName := ⟨RX5, "become", "(II)V"⟩
abbrev cX5_isMissing : ByteArray := prog_7_method_3_code
def yX5_isMissing : MethodName := ⟨RX5, "isMissing", "()Z"⟩
abbrev cX5_holds : ByteArray := prog_7_method_4_code
def yX5_holds : MethodName := ⟨RX5, "holds", "(II)Z"⟩
abbrev cX6_init : ByteArray := prog_8_method_1_code
def yX6_init : MethodName := ⟨RX6, "<init>", "()V"⟩
abbrev cX6_append : ByteArray := prog_8_method_2_code
def yX6_append : MethodName := ⟨RX6, "append", "(I)V"⟩
abbrev cX6_read : ByteArray := prog_8_method_3_code
def yX6_read : MethodName := ⟨RX6, "read", "()I"⟩
abbrev cX6_readClause : ByteArray := prog_8_method_4_code
def yX6_readClause : MethodName := ⟨RX6, "readClause", "()Z"⟩
abbrev cX6_step : ByteArray := prog_8_method_5_code
def yX6_step : MethodName := ⟨RX6, "step", "()V"⟩
abbrev cX6_readWord : ByteArray := prog_8_method_6_code
def yX6_readWord : MethodName := ⟨RX6, "readWord", "()V"⟩
abbrev cX6_isWord : ByteArray := prog_8_method_7_code
def yX6_isWord : MethodName := ⟨RX6, "isWord", "(Ljava/lang/String;)Z"⟩
abbrev cX6_readNumber : ByteArray := prog_8_method_8_code
def yX6_readNumber : MethodName := ⟨RX6, "readNumber", "()V"⟩
abbrev cX6_isLetter : ByteArray := prog_8_method_9_code
def yX6_isLetter : MethodName := ⟨RX6, "isLetter", "(I)Z"⟩
abbrev cX6_isDigit : ByteArray := prog_8_method_10_code
def yX6_isDigit : MethodName := ⟨RX6, "isDigit", "(I)Z"⟩
abbrev cX7_init : ByteArray := prog_1_method_1_code
def yX7_init : MethodName := ⟨RX7, "<init>", "()V"⟩
abbrev cX7_box : ByteArray := prog_1_method_2_code
def yX7_box : MethodName := ⟨RX7, "box", "(IIIII)I"⟩
abbrev cX7_of : ByteArray := prog_1_method_3_code
def yX7_of : MethodName := ⟨RX7, "of", "(II)I"⟩
abbrev cX7_kind : ByteArray := prog_1_method_4_code
def yX7_kind : MethodName := ⟨RX7, "kind", "(III)I"⟩
abbrev cX7_weigh : ByteArray := prog_1_method_5_code
def yX7_weigh : MethodName := ⟨RX7, "weigh", "(III)I"⟩
abbrev cX7_taken : ByteArray := prog_1_method_6_code
def yX7_taken : MethodName := ⟨RX7, "taken", "(II)I"⟩
abbrev cX7_off : ByteArray := prog_1_method_7_code
def yX7_off : MethodName := ⟨RX7, "off", "(I)I"⟩
abbrev cX7_on : ByteArray := prog_1_method_8_code
def yX7_on : MethodName := ⟨RX7, "on", "(II)I"⟩
abbrev cX7_contact : ByteArray := prog_1_method_9_code
def yX7_contact : MethodName := ⟨RX7, "contact", "(II)I"⟩
abbrev cX7_load : ByteArray := prog_1_method_10_code
def yX7_load : MethodName := ⟨RX7, "load", "(I)I"⟩
abbrev cX7_hands : ByteArray := prog_1_method_11_code
def yX7_hands : MethodName := ⟨RX7, "hands", "(II)I"⟩
abbrev cX7_centre : ByteArray := prog_1_method_12_code
def yX7_centre : MethodName := ⟨RX7, "centre", "(III)J"⟩
abbrev cX7_corner : ByteArray := prog_1_method_13_code
def yX7_corner : MethodName := ⟨RX7, "corner", "(III)I"⟩
abbrev cX7_lies : ByteArray := prog_1_method_14_code
def yX7_lies : MethodName := ⟨RX7, "lies", "(I)I"⟩
abbrev cX7_stands : ByteArray := prog_1_method_15_code
def yX7_stands : MethodName := ⟨RX7, "stands", "(I)I"⟩
abbrev cX7_fails : ByteArray := prog_1_method_16_code
def yX7_fails : MethodName := ⟨RX7, "fails", "(I)I"⟩
abbrev cX7_tilt : ByteArray := prog_1_method_17_code
def yX7_tilt : MethodName := ⟨RX7, "tilt", "(II)I"⟩
abbrev cX7_most : ByteArray := prog_1_method_18_code
def yX7_most : MethodName := ⟨RX7, "most", "(I)I"⟩
abbrev cX7_free : ByteArray := prog_1_method_19_code
def yX7_free : MethodName := ⟨RX7, "free", "()I"⟩
abbrev cX7_way : ByteArray := prog_1_method_20_code
def yX7_way : MethodName := ⟨RX7, "way", "(I)I"⟩
abbrev cX7_order : ByteArray := prog_1_method_21_code
def yX7_order : MethodName := ⟨RX7, "order", "(I)I"⟩
abbrev cX7_without : ByteArray := prog_1_method_22_code
def yX7_without : MethodName := ⟨RX7, "without", "(I)I"⟩
abbrev cX7_spot : ByteArray := prog_1_method_23_code
def yX7_spot : MethodName := ⟨RX7, "spot", "(III)I"⟩
abbrev cX7_bumps : ByteArray := prog_1_method_24_code
def yX7_bumps : MethodName := ⟨RX7, "bumps", "(II)I"⟩
abbrev cX7_chance : ByteArray := prog_1_method_25_code
def yX7_chance : MethodName := ⟨RX7, "chance", "(IIII)I"⟩
abbrev cX7_feed : ByteArray := prog_1_method_26_code
def yX7_feed : MethodName := ⟨RX7, "feed", "(IIIIII)I"⟩
abbrev cX7_text : ByteArray := prog_1_method_27_code
def yX7_text : MethodName := ⟨RX7, "text", "()I"⟩
abbrev cX7_tells : ByteArray := prog_1_method_28_code
def yX7_tells : MethodName := ⟨RX7, "tells", "(II)I"⟩
abbrev cX7_film : ByteArray := prog_1_method_29_code
def yX7_film : MethodName := ⟨RX7, "film", "(I)I"⟩
abbrev cX7_comes : ByteArray := prog_1_method_30_code
def yX7_comes : MethodName := ⟨RX7, "comes", "(IIII)I"⟩
abbrev cX7_image : ByteArray := prog_1_method_31_code
def yX7_image : MethodName := ⟨RX7, "image", "()I"⟩
abbrev cX7_back : ByteArray := prog_1_method_32_code
def yX7_back : MethodName := ⟨RX7, "back", "()I"⟩
abbrev cX7_count : ByteArray := prog_1_method_33_code
def yX7_count : MethodName := ⟨RX7, "count", "(I)I"⟩
abbrev cX7_sheet : ByteArray := prog_1_method_34_code
def yX7_sheet : MethodName := ⟨RX7, "sheet", "(III)I"⟩
abbrev cX7_put : ByteArray := prog_1_method_35_code
def yX7_put : MethodName := ⟨RX7, "put", "(III)I"⟩
abbrev cX7_copy : ByteArray := prog_1_method_36_code
def yX7_copy : MethodName := ⟨RX7, "copy", "(IIIII)I"⟩
abbrev cX7_isKind : ByteArray := prog_1_method_37_code
def yX7_isKind : MethodName := ⟨RX7, "isKind", "(I)Z"⟩
abbrev cX7_isWeight : ByteArray := prog_1_method_38_code
def yX7_isWeight : MethodName := ⟨RX7, "isWeight", "(J)Z"⟩
abbrev cX7_isSize : ByteArray := prog_1_method_39_code
def yX7_isSize : MethodName := ⟨RX7, "isSize", "(I)Z"⟩
abbrev cX7_isLength : ByteArray := prog_1_method_40_code
def yX7_isLength : MethodName := ⟨RX7, "isLength", "(I)Z"⟩
abbrev cX7_isAxis : ByteArray := prog_1_method_41_code
def yX7_isAxis : MethodName := ⟨RX7, "isAxis", "(I)Z"⟩
abbrev cX7_isPart : ByteArray := prog_1_method_42_code
def yX7_isPart : MethodName := ⟨RX7, "isPart", "(I)Z"⟩
abbrev cX7_isSide : ByteArray := prog_1_method_43_code
def yX7_isSide : MethodName := ⟨RX7, "isSide", "(I)Z"⟩
abbrev cX7_isByte : ByteArray := prog_1_method_44_code
def yX7_isByte : MethodName := ⟨RX7, "isByte", "(I)Z"⟩
abbrev cX7_isSheet : ByteArray := prog_1_method_45_code
def yX7_isSheet : MethodName := ⟨RX7, "isSheet", "(I)Z"⟩
abbrev cX7_isBoxAndOther : ByteArray := prog_1_method_46_code
def yX7_isBoxAndOther : MethodName := ⟨RX7, "isBoxAndOther", "(II)Z"⟩
abbrev cX7_settle : ByteArray := prog_1_method_47_code
def yX7_settle : MethodName := ⟨RX7, "settle", "()V"⟩
abbrev cX7_wouldStandAt : ByteArray := prog_1_method_48_code
def yX7_wouldStandAt : MethodName := ⟨RX7, "wouldStandAt", "(III)Z"⟩
abbrev cX7_standingKinds : ByteArray := prog_1_method_49_code
def yX7_standingKinds : MethodName := ⟨RX7, "standingKinds", "(I)I"⟩
abbrev cX7_firstFailingBump : ByteArray := prog_1_method_50_code
def yX7_firstFailingBump : MethodName := ⟨RX7, "firstFailingBump", "(II)I"⟩
abbrev cX7_nextDrawn : ByteArray := prog_1_method_51_code
def yX7_nextDrawn : MethodName := ⟨RX7, "nextDrawn", "(I)I"⟩
abbrev cX7_lowest : ByteArray := prog_1_method_52_code
def yX7_lowest : MethodName := ⟨RX7, "lowest", "(JJI)J"⟩
abbrev cX7_firstIn : ByteArray := prog_1_method_53_code
def yX7_firstIn : MethodName := ⟨RX7, "firstIn", "(I)I"⟩
abbrev cX7_isIn : ByteArray := prog_1_method_54_code
def yX7_isIn : MethodName := ⟨RX7, "isIn", "(II)Z"⟩
abbrev cX8_init : ByteArray := prog_10_method_1_code
def yX8_init : MethodName := ⟨RX8, "<init>", "()V"⟩
abbrev cX8_isIn : ByteArray := prog_10_method_2_code
def yX8_isIn : MethodName := ⟨RX8, "isIn", "(III)Z"⟩
abbrev cX8_has : ByteArray := prog_10_method_3_code
def yX8_has : MethodName := ⟨RX8, "has", "(II)Z"⟩
abbrev cX8_bits : ByteArray := prog_10_method_4_code
def yX8_bits : MethodName := ⟨RX8, "bits", "(I)I"⟩
abbrev cX8_there : ByteArray := prog_10_method_5_code
def yX8_there : MethodName := ⟨RX8, "there", "()I"⟩
abbrev cX8_isBox : ByteArray := prog_10_method_6_code
def yX8_isBox : MethodName := ⟨RX8, "isBox", "(I)Z"⟩
abbrev cX8_isThere : ByteArray := prog_10_method_7_code
def yX8_isThere : MethodName := ⟨RX8, "isThere", "(I)Z"⟩
abbrev cX8_bearsBy : ByteArray := prog_10_method_8_code
def yX8_bearsBy : MethodName := ⟨RX8, "bearsBy", "(II)I"⟩
abbrev cX8_gripBy : ByteArray := prog_10_method_9_code
def yX8_gripBy : MethodName := ⟨RX8, "gripBy", "(II)I"⟩
abbrev cX8_top : ByteArray := prog_10_method_10_code
def yX8_top : MethodName := ⟨RX8, "top", "(I)I"⟩
abbrev cX8_shared : ByteArray := prog_10_method_11_code
def yX8_shared : MethodName := ⟨RX8, "shared", "(IIII)I"⟩
abbrev cX8_alongX : ByteArray := prog_10_method_12_code
def yX8_alongX : MethodName := ⟨RX8, "alongX", "(II)I"⟩
abbrev cX8_alongY : ByteArray := prog_10_method_13_code
def yX8_alongY : MethodName := ⟨RX8, "alongY", "(II)I"⟩
abbrev cX8_inHeight : ByteArray := prog_10_method_14_code
def yX8_inHeight : MethodName := ⟨RX8, "inHeight", "(II)I"⟩
abbrev cX8_overlap : ByteArray := prog_10_method_15_code
def yX8_overlap : MethodName := ⟨RX8, "overlap", "(II)I"⟩
abbrev cX8_contactOf : ByteArray := prog_10_method_16_code
def yX8_contactOf : MethodName := ⟨RX8, "contactOf", "(II)I"⟩
abbrev cX8_handsDown : ByteArray := prog_10_method_17_code
def yX8_handsDown : MethodName := ⟨RX8, "handsDown", "(II)V"⟩
abbrev cX8_loadAll : ByteArray := prog_10_method_18_code
def yX8_loadAll : MethodName := ⟨RX8, "loadAll", "(I)V"⟩
abbrev cX8_centreOf : ByteArray := prog_10_method_19_code
def yX8_centreOf : MethodName := ⟨RX8, "centreOf", "(III)I"⟩
abbrev cX8_point : ByteArray := prog_10_method_20_code
def yX8_point : MethodName := ⟨RX8, "point", "(II)V"⟩
abbrev cX8_rectangle : ByteArray := prog_10_method_21_code
def yX8_rectangle : MethodName := ⟨RX8, "rectangle", "(IIII)V"⟩
abbrev cX8_more : ByteArray := prog_10_method_22_code
def yX8_more : MethodName := ⟨RX8, "more", "(II)I"⟩
abbrev cX8_less : ByteArray := prog_10_method_23_code
def yX8_less : MethodName := ⟨RX8, "less", "(II)I"⟩
abbrev cX8_cross : ByteArray := prog_10_method_24_code
def yX8_cross : MethodName := ⟨RX8, "cross", "(IIII)I"⟩
abbrev cX8_turns : ByteArray := prog_10_method_25_code
def yX8_turns : MethodName := ⟨RX8, "turns", "(III)V"⟩
abbrev cX8_findPolygon : ByteArray := prog_10_method_26_code
def yX8_findPolygon : MethodName := ⟨RX8, "findPolygon", "(II)V"⟩
abbrev cX8_cut : ByteArray := prog_10_method_27_code
def yX8_cut : MethodName := ⟨RX8, "cut", "(JJJJ)J"⟩
abbrev cX8_liesAt : ByteArray := prog_10_method_28_code
def yX8_liesAt : MethodName := ⟨RX8, "liesAt", "(JJJ)I"⟩
abbrev cX8_liesOf : ByteArray := prog_10_method_29_code
def yX8_liesOf : MethodName := ⟨RX8, "liesOf", "(IIII)I"⟩
abbrev cX8_isHeld : ByteArray := prog_10_method_30_code
def yX8_isHeld : MethodName := ⟨RX8, "isHeld", "(II)Z"⟩
abbrev cX8_failing : ByteArray := prog_10_method_31_code
def yX8_failing : MethodName := ⟨RX8, "failing", "(III)I"⟩
abbrev cX8_restingOn : ByteArray := prog_10_method_32_code
def yX8_restingOn : MethodName := ⟨RX8, "restingOn", "(II)I"⟩
abbrev cX8_inWay : ByteArray := prog_10_method_33_code
def yX8_inWay : MethodName := ⟨RX8, "inWay", "(II)I"⟩
abbrev cX8_isFree : ByteArray := prog_10_method_34_code
def yX8_isFree : MethodName := ⟨RX8, "isFree", "(II)Z"⟩
abbrev cX8_isSize : ByteArray := prog_10_method_35_code
def yX8_isSize : MethodName := ⟨RX8, "isSize", "(I)Z"⟩
abbrev cX8_lays : ByteArray := prog_10_method_36_code
def yX8_lays : MethodName := ⟨RX8, "lays", "(IIIIII)V"⟩
abbrev cX8_box : ByteArray := prog_10_method_37_code
def yX8_box : MethodName := ⟨RX8, "box", "(IIIII)I"⟩
abbrev cX8_of : ByteArray := prog_10_method_38_code
def yX8_of : MethodName := ⟨RX8, "of", "(II)I"⟩
abbrev cX8_kind : ByteArray := prog_10_method_39_code
def yX8_kind : MethodName := ⟨RX8, "kind", "(III)I"⟩
abbrev cX8_weigh : ByteArray := prog_10_method_40_code
def yX8_weigh : MethodName := ⟨RX8, "weigh", "(III)I"⟩
abbrev cX8_isUnder : ByteArray := prog_10_method_41_code
def yX8_isUnder : MethodName := ⟨RX8, "isUnder", "(II)Z"⟩
abbrev cX8_taken : ByteArray := prog_10_method_42_code
def yX8_taken : MethodName := ⟨RX8, "taken", "(II)I"⟩
abbrev cX8_off : ByteArray := prog_10_method_43_code
def yX8_off : MethodName := ⟨RX8, "off", "(I)I"⟩
abbrev cX8_below : ByteArray := prog_10_method_44_code
def yX8_below : MethodName := ⟨RX8, "below", "(I)I"⟩
abbrev cX8_on : ByteArray := prog_10_method_45_code
def yX8_on : MethodName := ⟨RX8, "on", "(II)I"⟩
abbrev cX8_contact : ByteArray := prog_10_method_46_code
def yX8_contact : MethodName := ⟨RX8, "contact", "(II)I"⟩
abbrev cX8_load : ByteArray := prog_10_method_47_code
def yX8_load : MethodName := ⟨RX8, "load", "(I)I"⟩
abbrev cX8_hands : ByteArray := prog_10_method_48_code
def yX8_hands : MethodName := ⟨RX8, "hands", "(II)I"⟩
abbrev cX8_common : ByteArray := prog_10_method_49_code
def yX8_common : MethodName := ⟨RX8, "common", "(JJ)J"⟩
abbrev cX8_partOf : ByteArray := prog_10_method_50_code
def yX8_partOf : MethodName := ⟨RX8, "partOf", "(JJI)J"⟩
abbrev cX8_centre : ByteArray := prog_10_method_51_code
def yX8_centre : MethodName := ⟨RX8, "centre", "(III)J"⟩
abbrev cX8_corner : ByteArray := prog_10_method_52_code
def yX8_corner : MethodName := ⟨RX8, "corner", "(III)I"⟩
abbrev cX8_lies : ByteArray := prog_10_method_53_code
def yX8_lies : MethodName := ⟨RX8, "lies", "(I)I"⟩
abbrev cX8_stands : ByteArray := prog_10_method_54_code
def yX8_stands : MethodName := ⟨RX8, "stands", "(I)I"⟩
abbrev cX8_firstOf : ByteArray := prog_10_method_55_code
def yX8_firstOf : MethodName := ⟨RX8, "firstOf", "(I)I"⟩
abbrev cX8_causeOf : ByteArray := prog_10_method_56_code
def yX8_causeOf : MethodName := ⟨RX8, "causeOf", "(I)I"⟩
abbrev cX8_fails : ByteArray := prog_10_method_57_code
def yX8_fails : MethodName := ⟨RX8, "fails", "(I)I"⟩
abbrev cX8_tilt : ByteArray := prog_10_method_58_code
def yX8_tilt : MethodName := ⟨RX8, "tilt", "(II)I"⟩
abbrev cX8_most : ByteArray := prog_10_method_59_code
def yX8_most : MethodName := ⟨RX8, "most", "(I)I"⟩
abbrev cX8_free : ByteArray := prog_10_method_60_code
def yX8_free : MethodName := ⟨RX8, "free", "()I"⟩
abbrev cX8_way : ByteArray := prog_10_method_61_code
def yX8_way : MethodName := ⟨RX8, "way", "(I)I"⟩
abbrev cX8_findWays : ByteArray := prog_10_method_62_code
def yX8_findWays : MethodName := ⟨RX8, "findWays", "()V"⟩
abbrev cX8_findLine : ByteArray := prog_10_method_63_code
def yX8_findLine : MethodName := ⟨RX8, "findLine", "()V"⟩
abbrev cX8_order : ByteArray := prog_10_method_64_code
def yX8_order : MethodName := ⟨RX8, "order", "(I)I"⟩
abbrev cX8_without : ByteArray := prog_10_method_65_code
def yX8_without : MethodName := ⟨RX8, "without", "(I)I"⟩
abbrev cX8_canCome : ByteArray := prog_10_method_66_code
def yX8_canCome : MethodName := ⟨RX8, "canCome", "(IIII)Z"⟩
abbrev cX8_spot : ByteArray := prog_10_method_67_code
def yX8_spot : MethodName := ⟨RX8, "spot", "(III)I"⟩
abbrev cX8_bumped : ByteArray := prog_10_method_68_code
def yX8_bumped : MethodName := ⟨RX8, "bumped", "(II)I"⟩
abbrev cX8_bumps : ByteArray := prog_10_method_69_code
def yX8_bumps : MethodName := ⟨RX8, "bumps", "(II)I"⟩
abbrev cX8_chance : ByteArray := prog_10_method_70_code
def yX8_chance : MethodName := ⟨RX8, "chance", "(IIII)I"⟩
abbrev cX8_feed : ByteArray := prog_10_method_71_code
def yX8_feed : MethodName := ⟨RX8, "feed", "(IIIIII)I"⟩
abbrev cX8_isSort : ByteArray := prog_10_method_72_code
def yX8_isSort : MethodName := ⟨RX8, "isSort", "(II)Z"⟩
abbrev cX8_token : ByteArray := prog_10_method_73_code
def yX8_token : MethodName := ⟨RX8, "token", "()I"⟩
abbrev cX8_wordOf : ByteArray := prog_10_method_74_code
def yX8_wordOf : MethodName := ⟨RX8, "wordOf", "()I"⟩
abbrev cX8_clause : ByteArray := prog_10_method_75_code
def yX8_clause : MethodName := ⟨RX8, "clause", "()I"⟩
abbrev cX8_isDone : ByteArray := prog_10_method_76_code
def yX8_isDone : MethodName := ⟨RX8, "isDone", "(I)Z"⟩
abbrev cX8_reads : ByteArray := prog_10_method_77_code
def yX8_reads : MethodName := ⟨RX8, "reads", "(Z)I"⟩
abbrev cX8_text : ByteArray := prog_10_method_78_code
def yX8_text : MethodName := ⟨RX8, "text", "()I"⟩
abbrev cX8_isSheet : ByteArray := prog_10_method_79_code
def yX8_isSheet : MethodName := ⟨RX8, "isSheet", "(I)Z"⟩
abbrev cX8_judges : ByteArray := prog_10_method_80_code
def yX8_judges : MethodName := ⟨RX8, "judges", "(I)V"⟩
abbrev cX8_kindsOf : ByteArray := prog_10_method_81_code
def yX8_kindsOf : MethodName := ⟨RX8, "kindsOf", "(I)I"⟩
abbrev cX8_tells : ByteArray := prog_10_method_82_code
def yX8_tells : MethodName := ⟨RX8, "tells", "(II)I"⟩
abbrev cX8_film : ByteArray := prog_10_method_83_code
def yX8_film : MethodName := ⟨RX8, "film", "(I)I"⟩
abbrev cX8_comes : ByteArray := prog_10_method_84_code
def yX8_comes : MethodName := ⟨RX8, "comes", "(IIII)I"⟩
abbrev cX8_image : ByteArray := prog_10_method_85_code
def yX8_image : MethodName := ⟨RX8, "image", "()I"⟩
abbrev cX8_back : ByteArray := prog_10_method_86_code
def yX8_back : MethodName := ⟨RX8, "back", "()I"⟩
abbrev cX8_weights : ByteArray := prog_10_method_87_code
def yX8_weights : MethodName := ⟨RX8, "weights", "()I"⟩
abbrev cX8_twos : ByteArray := prog_10_method_88_code
def yX8_twos : MethodName := ⟨RX8, "twos", "()I"⟩
abbrev cX8_toFloor : ByteArray := prog_10_method_89_code
def yX8_toFloor : MethodName := ⟨RX8, "toFloor", "()I"⟩
abbrev cX8_count : ByteArray := prog_10_method_90_code
def yX8_count : MethodName := ⟨RX8, "count", "(I)I"⟩
abbrev cX8_sheet : ByteArray := prog_10_method_91_code
def yX8_sheet : MethodName := ⟨RX8, "sheet", "(III)I"⟩
abbrev cX8_put : ByteArray := prog_10_method_92_code
def yX8_put : MethodName := ⟨RX8, "put", "(III)I"⟩
abbrev cX8_copy : ByteArray := prog_10_method_93_code
def yX8_copy : MethodName := ⟨RX8, "copy", "(IIIII)I"⟩
abbrev cJ6_bitCount_0f7a4 : ByteArray := prog_11_method_49_code
def yJ6_bitCount_0f7a4 : MethodName := ⟨RJ6, "bitCount", "(I)I"⟩
abbrev cJ0_length_8abf5 : ByteArray := prog_13_method_54_code
def yJ0_length_8abf5 : MethodName := ⟨RJ0, "length", "()I"⟩
abbrev cJ0_charAt_5068e : ByteArray := prog_13_method_56_code
def yJ0_charAt_5068e : MethodName := ⟨RJ0, "charAt", "(I)C"⟩
abbrev cJ0_coder_7d493 : ByteArray := prog_13_method_152_code
def yJ0_coder_7d493 : MethodName := ⟨RJ0, "coder", "()B"⟩
abbrev cJ0_isLatin1_aae02 : ByteArray := prog_13_method_154_code
def yJ0_isLatin1_aae02 : MethodName := ⟨RJ0, "isLatin1", "()Z"⟩
abbrev cJ0_checkIndex_df160 : ByteArray := prog_13_method_155_code
def yJ0_checkIndex_df160 : MethodName := ⟨RJ0, "checkIndex", "(II)V"⟩
abbrev cJ1_charAt_3b067 : ByteArray := prog_14_method_2_code
def yJ1_charAt_3b067 : MethodName := ⟨RJ1, "charAt", "([BI)C"⟩
abbrev cJ7_fill_53178 : ByteArray := prog_17_method_103_code
def yJ7_fill_53178 : MethodName := ⟨RJ7, "fill", "([II)V"⟩
abbrev cJ3_checkIndex_8e157 : ByteArray := prog_18_method_11_code
def yJ3_checkIndex_8e157 : MethodName := ⟨RJ3, "checkIndex", "(IILjava/util/function/BiFunction;)I"⟩
abbrev cL_law : ByteArray := code
def yL_law : MethodName := ⟨RL, "law", "([I)Z"⟩
abbrev vwCl : List vw_C := [(RX0, TX0, 7), (RX1, TX1, 9), (RX2, TX2, 5), (RX3, TX3, 4), (RX4, TX4, 6), (RX5, TX5, 3), (RX6, TX6, 9), (RX7, TX7, 8), (RX8, TX8, 32)]
end
section
/-! ===== tables of this class: methods, fields, calls, constants, the cells that the constructors make ===== -/
/-- name, code, locals, what it returns, whose it is, kind (0 of an object, 1 static, 2 a constructor), how many values it takes, frames and words that it needs below it -/
abbrev MRow : Type := MethodName × ByteArray × Nat × Option FieldType × Nat × Nat × Nat × Nat × Nat
def mTab_0 : List MRow := [(yX0_init, cX0_init, 2, none, 0, 2, 1, 5, 141),
  (yX0_settle, cX0_settle, 5, none, 0, 0, 3, 3, 76),
  (yX0_handDown, cX0_handDown, 7, none, 0, 0, 2, 2, 46),
  (yX0_heft, cX0_heft, 2, (some .int), 0, 0, 2, 0, 0),
  (yX0_takeOn, cX0_takeOn, 6, none, 0, 0, 3, 1, 21),
  (yX0_outline, cX0_outline, 5, none, 0, 0, 2, 2, 52),
  (yX0_failing, cX0_failing, 5, (some .int), 0, 0, 3, 3, 89),
  (yX0_why, cX0_why, 5, (some .int), 0, 0, 4, 2, 65),
  (yX0_placed, cX0_placed, 11, (some .int), 0, 0, 4, 1, 35),
  (yX0_toFloor, cX0_toFloor, 2, (some .int), 0, 0, 2, 1, 21),
  (yX0_whoFailsBy, cX0_whoFailsBy, 4, (some .int), 0, 0, 2, 3, 89),
  (yX0_heaviestOn, cX0_heaviestOn, 5, (some .int), 0, 0, 2, 2, 45),
  (yX0_allToFloor, cX0_allToFloor, 3, (some .int), 0, 0, 1, 2, 42),
  (yX1_init, cX1_init, 1, none, 1, 2, 1, 3, 100),
  (yX1_areaWith, cX1_areaWith, 4, (some .int), 1, 0, 2, 1, 21),
  (yX1_right, cX1_right, 2, (some .int), 1, 0, 2, 0, 0),
  (yX1_left, cX1_left, 2, (some .int), 1, 0, 2, 0, 0),
  (yX1_far, cX1_far, 2, (some .int), 1, 0, 2, 0, 0),
  (yX1_near, cX1_near, 2, (some .int), 1, 0, 2, 0, 0),
  (yX1_top, cX1_top, 1, (some .int), 1, 0, 1, 0, 0),
  (yX1_size, cX1_size, 1, (some .int), 1, 0, 1, 0, 0),
  (yX1_bears, cX1_bears, 1, (some .int), 1, 0, 1, 0, 0),
  (yX1_grip, cX1_grip, 1, (some .int), 1, 0, 1, 0, 0),
  (yX1_isOfKind, cX1_isOfKind, 4, (some .boolean), 1, 0, 2, 0, 0),
  (yX1_meetsAlongY, cX1_meetsAlongY, 2, (some .boolean), 1, 0, 2, 1, 21),
  (yX1_meetsInHeight, cX1_meetsInHeight, 2, (some .boolean), 1, 0, 2, 1, 20),
  (yX1_ownCentreX, cX1_ownCentreX, 2, (some .int), 1, 0, 1, 0, 0),
  (yX1_ownCentreY, cX1_ownCentreY, 2, (some .int), 1, 0, 1, 0, 0),
  (yX1_isOnFloor, cX1_isOnFloor, 1, (some .boolean), 1, 0, 1, 0, 0),
  (yX1_floorContact, cX1_floorContact, 1, (some .int), 1, 0, 1, 1, 20),
  (yX1_become, cX1_become, 2, none, 1, 0, 2, 0, 0),
  (yX2_init, cX2_init, 1, none, 2, 2, 1, 6, 162),
  (yX2_begin, cX2_begin, 1, none, 2, 0, 1, 1, 23),
  (yX2_freeIn, cX2_freeIn, 6, (some .int), 2, 0, 3, 4, 113),
  (yX2_findOrders, cX2_findOrders, 4, (some .int), 2, 0, 2, 6, 161),
  (yX2_findFree, cX2_findFree, 4, none, 2, 0, 2, 5, 138),
  (yX2_findFirst, cX2_findFirst, 5, none, 2, 0, 2, 1, 21),
  (yX3_init, cX3_init, 2, none, 3, 2, 1, 4, 120),
  (yX3_receive, cX3_receive, 9, (some .int), 3, 0, 6, 4, 123),
  (yX3_greatestTopUnder, cX3_greatestTopUnder, 4, (some .int), 3, 0, 2, 3, 100),
  (yX3_noteContacts, cX3_noteContacts, 4, none, 3, 0, 2, 2, 44),
  (yX3_knows, cX3_knows, 2, (some .boolean), 3, 0, 2, 0, 0),
  (yX3_has, cX3_has, 2, (some .boolean), 3, 0, 2, 1, 21),
  (yX3_above, cX3_above, 5, (some .int), 3, 0, 3, 1, 21),
  (yX3_inWay, cX3_inWay, 8, (some .int), 3, 0, 3, 2, 42),
  (yX3_below, cX3_below, 5, (some .int), 3, 0, 3, 1, 21),
  (yX3_become, cX3_become, 3, none, 3, 0, 2, 3, 100),
  (yX3_weightOfAll, cX3_weightOfAll, 3, (some .int), 3, 0, 1, 1, 21),
  (yX3_restingPairs, cX3_restingPairs, 3, (some .int), 3, 0, 1, 2, 45),
  (yX4_init, cX4_init, 1, none, 4, 2, 1, 3, 100),
  (yX4_clear, cX4_clear, 1, none, 4, 0, 1, 0, 0),
  (yX4_add, cX4_add, 4, none, 4, 0, 3, 1, 21),
  (yX4_wrap, cX4_wrap, 4, none, 4, 0, 1, 1, 29),
  (yX4_nextRound, cX4_nextRound, 10, (some .int), 4, 0, 2, 0, 0),
  (yX4_holds, cX4_holds, 16, (some .int), 4, 0, 4, 0, 0),
  (yX5_init, cX5_init, 1, none, 5, 2, 1, 3, 100),
  (yX5_isMissing, cX5_isMissing, 1, (some .boolean), 5, 0, 1, 0, 0),
  (yX5_become, cX5_become, 3, none, 5, 0, 3, 1, 23),
  (yX5_holds, cX5_holds, 3, (some .boolean), 5, 0, 3, 0, 0),
  (yX6_init, cX6_init, 1, none, 6, 2, 1, 3, 100)]
def mTab_1 : List MRow := [(yX6_append, cX6_append, 2, none, 6, 0, 2, 0, 0),
  (yX6_read, cX6_read, 1, (some .int), 6, 0, 1, 9, 226),
  (yX6_readClause, cX6_readClause, 3, (some .boolean), 6, 0, 1, 8, 204),
  (yX6_step, cX6_step, 1, none, 6, 0, 1, 7, 184),
  (yX6_isLetter, cX6_isLetter, 1, (some .boolean), 6, 1, 1, 0, 0),
  (yX6_readWord, cX6_readWord, 1, none, 6, 0, 1, 6, 164),
  (yX6_isWord, cX6_isWord, 3, (some .boolean), 6, 0, 2, 5, 142),
  (yX6_isDigit, cX6_isDigit, 1, (some .boolean), 6, 1, 1, 0, 0),
  (yX6_readNumber, cX6_readNumber, 1, none, 6, 0, 1, 1, 20),
  (yX7_init, cX7_init, 2, none, 7, 2, 1, 7, 182),
  (yX7_box, cX7_box, 6, (some .int), 7, 0, 6, 5, 151),
  (yX7_isKind, cX7_isKind, 1, (some .boolean), 7, 1, 1, 0, 0),
  (yX7_isSize, cX7_isSize, 1, (some .boolean), 7, 1, 1, 1, 20),
  (yX7_isLength, cX7_isLength, 1, (some .boolean), 7, 1, 1, 0, 0),
  (yX7_isWeight, cX7_isWeight, 2, (some .boolean), 7, 1, 1, 0, 0),
  (yX7_isIn, cX7_isIn, 2, (some .boolean), 7, 1, 2, 0, 0),
  (yX7_of, cX7_of, 4, (some .int), 7, 0, 3, 2, 42),
  (yX7_kind, cX7_kind, 6, (some .int), 7, 0, 4, 2, 42),
  (yX7_weigh, cX7_weigh, 8, (some .int), 7, 0, 4, 2, 42),
  (yX7_taken, cX7_taken, 4, (some .int), 7, 0, 3, 2, 42),
  (yX7_off, cX7_off, 2, (some .int), 7, 0, 2, 5, 138),
  (yX7_on, cX7_on, 3, (some .int), 7, 0, 3, 2, 45),
  (yX7_contact, cX7_contact, 3, (some .int), 7, 0, 3, 3, 64),
  (yX7_isBoxAndOther, cX7_isBoxAndOther, 3, (some .boolean), 7, 0, 3, 2, 42),
  (yX7_load, cX7_load, 2, (some .int), 7, 0, 2, 5, 120),
  (yX7_settle, cX7_settle, 1, none, 7, 0, 1, 4, 100),
  (yX7_hands, cX7_hands, 3, (some .int), 7, 0, 3, 5, 120),
  (yX7_centre, cX7_centre, 6, (some .long), 7, 0, 4, 5, 120),
  (yX7_isAxis, cX7_isAxis, 1, (some .boolean), 7, 1, 1, 0, 0),
  (yX7_isPart, cX7_isPart, 1, (some .boolean), 7, 1, 1, 0, 0),
  (yX7_lowest, cX7_lowest, 12, (some .long), 7, 1, 3, 0, 0),
  (yX7_corner, cX7_corner, 5, (some .int), 7, 0, 4, 5, 120),
  (yX7_lies, cX7_lies, 2, (some .int), 7, 0, 2, 5, 120),
  (yX7_stands, cX7_stands, 2, (some .int), 7, 0, 2, 5, 120),
  (yX7_fails, cX7_fails, 8, (some .int), 7, 0, 2, 5, 120),
  (yX7_firstIn, cX7_firstIn, 2, (some .int), 7, 1, 1, 1, 21),
  (yX7_tilt, cX7_tilt, 3, (some .int), 7, 0, 3, 5, 120),
  (yX7_isSide, cX7_isSide, 1, (some .boolean), 7, 1, 1, 0, 0),
  (yX7_most, cX7_most, 3, (some .int), 7, 0, 2, 5, 120),
  (yX7_free, cX7_free, 1, (some .int), 7, 0, 1, 5, 138),
  (yX7_way, cX7_way, 2, (some .int), 7, 0, 2, 3, 69),
  (yX7_order, cX7_order, 3, (some .int), 7, 0, 2, 7, 184),
  (yX7_without, cX7_without, 2, (some .int), 7, 0, 2, 4, 113),
  (yX7_spot, cX7_spot, 7, (some .int), 7, 0, 4, 6, 174),
  (yX7_wouldStandAt, cX7_wouldStandAt, 4, (some .boolean), 7, 0, 4, 5, 151),
  (yX7_bumps, cX7_bumps, 3, (some .int), 7, 0, 3, 5, 139),
  (yX7_firstFailingBump, cX7_firstFailingBump, 7, (some .int), 7, 0, 3, 4, 113),
  (yX7_nextDrawn, cX7_nextDrawn, 1, (some .int), 7, 1, 1, 0, 0),
  (yX7_chance, cX7_chance, 7, (some .int), 7, 0, 5, 5, 139),
  (yX7_feed, cX7_feed, 7, (some .int), 7, 0, 7, 1, 21),
  (yX7_isByte, cX7_isByte, 1, (some .boolean), 7, 1, 1, 0, 0),
  (yX7_text, cX7_text, 6, (some .int), 7, 0, 1, 10, 246),
  (yX7_tells, cX7_tells, 8, (some .int), 7, 0, 3, 5, 145),
  (yX7_standingKinds, cX7_standingKinds, 4, (some .int), 7, 0, 2, 4, 122),
  (yX7_isSheet, cX7_isSheet, 1, (some .boolean), 7, 1, 1, 0, 0),
  (yX7_film, cX7_film, 4, (some .int), 7, 0, 2, 7, 184),
  (yX7_comes, cX7_comes, 12, (some .int), 7, 0, 5, 6, 176),
  (yX7_image, cX7_image, 1, (some .int), 7, 0, 1, 4, 122),
  (yX7_back, cX7_back, 1, (some .int), 7, 0, 1, 4, 122),
  (yX7_count, cX7_count, 2, (some .int), 7, 0, 2, 5, 120)]
def mTab_2 : List MRow := [(yX7_sheet, cX7_sheet, 4, (some .int), 7, 0, 4, 2, 45),
  (yX7_put, cX7_put, 5, (some .int), 7, 0, 4, 1, 20),
  (yX7_copy, cX7_copy, 8, (some .int), 7, 0, 6, 3, 100),
  (yX8_init, cX8_init, 2, none, 8, 2, 1, 3, 100),
  (yX8_box, cX8_box, 7, (some .int), 8, 0, 6, 4, 96),
  (yX8_isIn, cX8_isIn, 3, (some .boolean), 8, 1, 3, 0, 0),
  (yX8_isSize, cX8_isSize, 1, (some .boolean), 8, 1, 1, 1, 22),
  (yX8_lays, cX8_lays, 8, none, 8, 0, 7, 3, 69),
  (yX8_there, cX8_there, 1, (some .int), 8, 0, 1, 0, 0),
  (yX8_has, cX8_has, 2, (some .boolean), 8, 1, 2, 0, 0),
  (yX8_overlap, cX8_overlap, 3, (some .int), 8, 0, 3, 2, 47),
  (yX8_alongX, cX8_alongX, 3, (some .int), 8, 0, 3, 1, 25),
  (yX8_shared, cX8_shared, 6, (some .int), 8, 1, 4, 0, 0),
  (yX8_alongY, cX8_alongY, 3, (some .int), 8, 0, 3, 1, 25),
  (yX8_top, cX8_top, 2, (some .int), 8, 0, 2, 0, 0),
  (yX8_more, cX8_more, 2, (some .int), 8, 1, 2, 0, 0),
  (yX8_of, cX8_of, 3, (some .int), 8, 0, 3, 2, 43),
  (yX8_isBox, cX8_isBox, 2, (some .boolean), 8, 0, 2, 1, 22),
  (yX8_bearsBy, cX8_bearsBy, 3, (some .int), 8, 1, 2, 0, 0),
  (yX8_gripBy, cX8_gripBy, 2, (some .int), 8, 1, 2, 0, 0),
  (yX8_kind, cX8_kind, 5, (some .int), 8, 0, 4, 3, 64),
  (yX8_isThere, cX8_isThere, 2, (some .boolean), 8, 0, 2, 2, 43),
  (yX8_weigh, cX8_weigh, 7, (some .int), 8, 0, 4, 3, 64),
  (yX8_taken, cX8_taken, 3, (some .int), 8, 0, 3, 3, 64),
  (yX8_isUnder, cX8_isUnder, 2, (some .boolean), 8, 1, 2, 0, 0),
  (yX8_off, cX8_off, 2, (some .int), 8, 0, 2, 8, 193),
  (yX8_isFree, cX8_isFree, 3, (some .boolean), 8, 0, 3, 7, 171),
  (yX8_restingOn, cX8_restingOn, 5, (some .int), 8, 0, 3, 4, 91),
  (yX8_contactOf, cX8_contactOf, 3, (some .int), 8, 0, 3, 3, 69),
  (yX8_inWay, cX8_inWay, 5, (some .int), 8, 0, 3, 2, 47),
  (yX8_inHeight, cX8_inHeight, 3, (some .int), 8, 0, 3, 1, 25),
  (yX8_failing, cX8_failing, 5, (some .int), 8, 0, 4, 6, 147),
  (yX8_loadAll, cX8_loadAll, 4, none, 8, 0, 2, 5, 117),
  (yX8_handsDown, cX8_handsDown, 7, none, 8, 0, 3, 4, 91),
  (yX8_isHeld, cX8_isHeld, 5, (some .boolean), 8, 0, 3, 4, 91),
  (yX8_liesOf, cX8_liesOf, 13, (some .int), 8, 0, 5, 5, 115),
  (yX8_findPolygon, cX8_findPolygon, 5, none, 8, 0, 3, 4, 91),
  (yX8_rectangle, cX8_rectangle, 5, none, 8, 0, 5, 1, 23),
  (yX8_point, cX8_point, 4, none, 8, 0, 3, 0, 0),
  (yX8_less, cX8_less, 2, (some .int), 8, 1, 2, 0, 0),
  (yX8_turns, cX8_turns, 4, none, 8, 0, 4, 1, 24),
  (yX8_cross, cX8_cross, 5, (some .int), 8, 0, 5, 0, 0),
  (yX8_centreOf, cX8_centreOf, 12, (some .int), 8, 0, 4, 1, 21),
  (yX8_liesAt, cX8_liesAt, 12, (some .int), 8, 0, 4, 1, 27),
  (yX8_cut, cX8_cut, 8, (some .long), 8, 1, 4, 0, 0),
  (yX8_bits, cX8_bits, 3, (some .int), 8, 1, 1, 0, 0),
  (yX8_on, cX8_on, 3, (some .int), 8, 0, 3, 5, 115),
  (yX8_below, cX8_below, 4, (some .int), 8, 0, 2, 4, 91),
  (yX8_contact, cX8_contact, 3, (some .int), 8, 0, 3, 4, 91),
  (yX8_load, cX8_load, 2, (some .int), 8, 0, 2, 6, 140),
  (yX8_hands, cX8_hands, 3, (some .int), 8, 0, 3, 6, 140),
  (yX8_centre, cX8_centre, 4, (some .long), 8, 0, 4, 6, 140),
  (yX8_partOf, cX8_partOf, 5, (some .long), 8, 1, 3, 1, 29),
  (yX8_common, cX8_common, 10, (some .long), 8, 1, 2, 0, 0),
  (yX8_corner, cX8_corner, 4, (some .int), 8, 0, 4, 5, 115),
  (yX8_lies, cX8_lies, 2, (some .int), 8, 0, 2, 6, 147),
  (yX8_stands, cX8_stands, 3, (some .int), 8, 0, 2, 7, 171),
  (yX8_fails, cX8_fails, 6, (some .int), 8, 0, 2, 7, 171),
  (yX8_firstOf, cX8_firstOf, 2, (some .int), 8, 1, 1, 1, 21),
  (yX8_causeOf, cX8_causeOf, 4, (some .int), 8, 0, 2, 5, 115)]
def mTab_3 : List MRow := [(yX8_tilt, cX8_tilt, 3, (some .int), 8, 0, 3, 7, 171),
  (yX8_most, cX8_most, 3, (some .int), 8, 0, 2, 7, 171),
  (yX8_free, cX8_free, 3, (some .int), 8, 0, 1, 8, 193),
  (yX8_way, cX8_way, 2, (some .int), 8, 0, 2, 3, 71),
  (yX8_order, cX8_order, 2, (some .int), 8, 0, 2, 10, 238),
  (yX8_findLine, cX8_findLine, 3, none, 8, 0, 1, 9, 216),
  (yX8_findWays, cX8_findWays, 4, none, 8, 0, 1, 8, 193),
  (yX8_without, cX8_without, 2, (some .int), 8, 0, 2, 7, 171),
  (yX8_spot, cX8_spot, 7, (some .int), 8, 0, 4, 8, 197),
  (yX8_canCome, cX8_canCome, 7, (some .boolean), 8, 0, 5, 7, 171),
  (yX8_bumps, cX8_bumps, 3, (some .int), 8, 0, 3, 8, 196),
  (yX8_bumped, cX8_bumped, 6, (some .int), 8, 0, 3, 7, 171),
  (yX8_chance, cX8_chance, 7, (some .int), 8, 0, 5, 8, 196),
  (yX8_feed, cX8_feed, 8, (some .int), 8, 0, 7, 1, 22),
  (yX8_text, cX8_text, 2, (some .int), 8, 0, 1, 11, 259),
  (yX8_reads, cX8_reads, 5, (some .int), 8, 0, 2, 10, 235),
  (yX8_clause, cX8_clause, 4, (some .int), 8, 0, 1, 3, 65),
  (yX8_token, cX8_token, 2, (some .int), 8, 0, 1, 2, 44),
  (yX8_isSort, cX8_isSort, 3, (some .boolean), 8, 0, 3, 1, 22),
  (yX8_wordOf, cX8_wordOf, 4, (some .int), 8, 0, 1, 0, 0),
  (yX8_isDone, cX8_isDone, 2, (some .boolean), 8, 0, 2, 9, 214),
  (yX8_tells, cX8_tells, 3, (some .int), 8, 0, 3, 9, 216),
  (yX8_kindsOf, cX8_kindsOf, 5, (some .int), 8, 0, 2, 7, 171),
  (yX8_isSheet, cX8_isSheet, 1, (some .boolean), 8, 1, 1, 1, 22),
  (yX8_judges, cX8_judges, 4, none, 8, 0, 2, 8, 193),
  (yX8_film, cX8_film, 3, (some .int), 8, 0, 2, 10, 238),
  (yX8_comes, cX8_comes, 10, (some .int), 8, 0, 5, 5, 122),
  (yX8_image, cX8_image, 2, (some .int), 8, 0, 1, 0, 0),
  (yX8_back, cX8_back, 2, (some .int), 8, 0, 1, 0, 0),
  (yX8_count, cX8_count, 2, (some .int), 8, 0, 2, 7, 162),
  (yX8_weights, cX8_weights, 3, (some .int), 8, 0, 1, 1, 21),
  (yX8_twos, cX8_twos, 3, (some .int), 8, 0, 1, 5, 114),
  (yX8_toFloor, cX8_toFloor, 3, (some .int), 8, 0, 1, 6, 140),
  (yX8_sheet, cX8_sheet, 5, (some .int), 8, 0, 4, 2, 42),
  (yX8_put, cX8_put, 4, (some .int), 8, 0, 4, 2, 42),
  (yX8_copy, cX8_copy, 7, (some .int), 8, 0, 6, 2, 42),
  (yJ7_fill_53178, cJ7_fill_53178, 4, none, 9, 1, 2, 0, 0),
  (yJ6_bitCount_0f7a4, cJ6_bitCount_0f7a4, 1, (some .int), 10, 1, 1, 0, 0),
  (yJ0_length_8abf5, cJ0_length_8abf5, 1, (some .int), 12, 0, 1, 1, 20),
  (yJ0_coder_7d493, cJ0_coder_7d493, 1, (some .byte), 12, 0, 1, 0, 0),
  (yJ0_charAt_5068e, cJ0_charAt_5068e, 2, (some .char), 12, 0, 2, 4, 121),
  (yJ0_isLatin1_aae02, cJ0_isLatin1_aae02, 1, (some .boolean), 12, 0, 1, 0, 0),
  (yJ1_charAt_3b067, cJ1_charAt_3b067, 2, (some .char), 13, 1, 2, 3, 100),
  (yL_law, cL_law, 4, (some .boolean), 14, 0, 2, 14, 568)]
def mTab : List MRow := mTab_0 ++ (mTab_1 ++ (mTab_2 ++ (mTab_3)))
def mRow (i : Nat) : MRow := mTab.getD i (objectInit, ⟨#[]⟩, 0, none, 99, 99, 0, 0, 0)
def mY (i : Nat) : MethodName := (mRow i).1
def mC (i : Nat) : ByteArray := (mRow i).2.1
def mL (i : Nat) : Nat := (mRow i).2.2.1
def mR (i : Nat) : Option FieldType := (mRow i).2.2.2.1
def mO (i : Nat) : Nat := (mRow i).2.2.2.2.1
def mK (i : Nat) : Nat := (mRow i).2.2.2.2.2.1
def mN (i : Nat) : Nat := (mRow i).2.2.2.2.2.2.1
def mF (i : Nat) : Nat := (mRow i).2.2.2.2.2.2.2.1
def mW (i : Nat) : Nat := (mRow i).2.2.2.2.2.2.2.2
abbrev m_Ba_init : Nat := 0
abbrev m_Ba_settle : Nat := 1
abbrev m_Ba_handDown : Nat := 2
abbrev m_Ba_heft : Nat := 3
abbrev m_Ba_takeOn : Nat := 4
abbrev m_Ba_outline : Nat := 5
abbrev m_Ba_failing : Nat := 6
abbrev m_Ba_why : Nat := 7
abbrev m_Ba_placed : Nat := 8
abbrev m_Ba_toFloor : Nat := 9
abbrev m_Ba_whoFailsBy : Nat := 10
abbrev m_Ba_heaviestOn : Nat := 11
abbrev m_Ba_allToFloor : Nat := 12
abbrev m_Bo_init : Nat := 13
abbrev m_Bo_areaWith : Nat := 14
abbrev m_Bo_right : Nat := 15
abbrev m_Bo_left : Nat := 16
abbrev m_Bo_far : Nat := 17
abbrev m_Bo_near : Nat := 18
abbrev m_Bo_top : Nat := 19
abbrev m_Bo_size : Nat := 20
abbrev m_Bo_bears : Nat := 21
abbrev m_Bo_grip : Nat := 22
abbrev m_Bo_isOfKind : Nat := 23
abbrev m_Bo_meetsAlongY : Nat := 24
abbrev m_Bo_meetsInHeight : Nat := 25
abbrev m_Bo_ownCentreX : Nat := 26
abbrev m_Bo_ownCentreY : Nat := 27
abbrev m_Bo_isOnFloor : Nat := 28
abbrev m_Bo_floorContact : Nat := 29
abbrev m_Bo_become : Nat := 30
abbrev m_Do_init : Nat := 31
abbrev m_Do_begin : Nat := 32
abbrev m_Do_freeIn : Nat := 33
abbrev m_Do_findOrders : Nat := 34
abbrev m_Do_findFree : Nat := 35
abbrev m_Do_findFirst : Nat := 36
abbrev m_Pi_init : Nat := 37
abbrev m_Pi_receive : Nat := 38
abbrev m_Pi_greatestTopUnder : Nat := 39
abbrev m_Pi_noteContacts : Nat := 40
abbrev m_Pi_knows : Nat := 41
abbrev m_Pi_has : Nat := 42
abbrev m_Pi_above : Nat := 43
abbrev m_Pi_inWay : Nat := 44
abbrev m_Pi_below : Nat := 45
abbrev m_Pi_become : Nat := 46
abbrev m_Pi_weightOfAll : Nat := 47
abbrev m_Pi_restingPairs : Nat := 48
abbrev m_Po_init : Nat := 49
abbrev m_Po_clear : Nat := 50
abbrev m_Po_add : Nat := 51
abbrev m_Po_wrap : Nat := 52
abbrev m_Po_nextRound : Nat := 53
abbrev m_Po_holds : Nat := 54
abbrev m_Sh_init : Nat := 55
abbrev m_Sh_isMissing : Nat := 56
abbrev m_Sh_become : Nat := 57
abbrev m_Sh_holds : Nat := 58
abbrev m_Ta_init : Nat := 59
abbrev m_Ta_append : Nat := 60
abbrev m_Ta_read : Nat := 61
abbrev m_Ta_readClause : Nat := 62
abbrev m_Ta_step : Nat := 63
abbrev m_Ta_isLetter : Nat := 64
abbrev m_Ta_readWord : Nat := 65
abbrev m_Ta_isWord : Nat := 66
abbrev m_Ta_isDigit : Nat := 67
abbrev m_Ta_readNumber : Nat := 68
abbrev m_PS_init : Nat := 69
abbrev m_PS_box : Nat := 70
abbrev m_PS_isKind : Nat := 71
abbrev m_PS_isSize : Nat := 72
abbrev m_PS_isLength : Nat := 73
abbrev m_PS_isWeight : Nat := 74
abbrev m_PS_isIn : Nat := 75
abbrev m_PS_of : Nat := 76
abbrev m_PS_kind : Nat := 77
abbrev m_PS_weigh : Nat := 78
abbrev m_PS_taken : Nat := 79
abbrev m_PS_off : Nat := 80
abbrev m_PS_on : Nat := 81
abbrev m_PS_contact : Nat := 82
abbrev m_PS_isBoxAndOther : Nat := 83
abbrev m_PS_load : Nat := 84
abbrev m_PS_settle : Nat := 85
abbrev m_PS_hands : Nat := 86
abbrev m_PS_centre : Nat := 87
abbrev m_PS_isAxis : Nat := 88
abbrev m_PS_isPart : Nat := 89
abbrev m_PS_lowest : Nat := 90
abbrev m_PS_corner : Nat := 91
abbrev m_PS_lies : Nat := 92
abbrev m_PS_stands : Nat := 93
abbrev m_PS_fails : Nat := 94
abbrev m_PS_firstIn : Nat := 95
abbrev m_PS_tilt : Nat := 96
abbrev m_PS_isSide : Nat := 97
abbrev m_PS_most : Nat := 98
abbrev m_PS_free : Nat := 99
abbrev m_PS_way : Nat := 100
abbrev m_PS_order : Nat := 101
abbrev m_PS_without : Nat := 102
abbrev m_PS_spot : Nat := 103
abbrev m_PS_wouldStandAt : Nat := 104
abbrev m_PS_bumps : Nat := 105
abbrev m_PS_firstFailingBump : Nat := 106
abbrev m_PS_nextDrawn : Nat := 107
abbrev m_PS_chance : Nat := 108
abbrev m_PS_feed : Nat := 109
abbrev m_PS_isByte : Nat := 110
abbrev m_PS_text : Nat := 111
abbrev m_PS_tells : Nat := 112
abbrev m_PS_standingKinds : Nat := 113
abbrev m_PS_isSheet : Nat := 114
abbrev m_PS_film : Nat := 115
abbrev m_PS_comes : Nat := 116
abbrev m_PS_image : Nat := 117
abbrev m_PS_back : Nat := 118
abbrev m_PS_count : Nat := 119
abbrev m_PS_sheet : Nat := 120
abbrev m_PS_put : Nat := 121
abbrev m_PS_copy : Nat := 122
abbrev m_Mo_init : Nat := 123
abbrev m_Mo_box : Nat := 124
abbrev m_Mo_isIn : Nat := 125
abbrev m_Mo_isSize : Nat := 126
abbrev m_Mo_lays : Nat := 127
abbrev m_Mo_there : Nat := 128
abbrev m_Mo_has : Nat := 129
abbrev m_Mo_overlap : Nat := 130
abbrev m_Mo_alongX : Nat := 131
abbrev m_Mo_shared : Nat := 132
abbrev m_Mo_alongY : Nat := 133
abbrev m_Mo_top : Nat := 134
abbrev m_Mo_more : Nat := 135
abbrev m_Mo_of : Nat := 136
abbrev m_Mo_isBox : Nat := 137
abbrev m_Mo_bearsBy : Nat := 138
abbrev m_Mo_gripBy : Nat := 139
abbrev m_Mo_kind : Nat := 140
abbrev m_Mo_isThere : Nat := 141
abbrev m_Mo_weigh : Nat := 142
abbrev m_Mo_taken : Nat := 143
abbrev m_Mo_isUnder : Nat := 144
abbrev m_Mo_off : Nat := 145
abbrev m_Mo_isFree : Nat := 146
abbrev m_Mo_restingOn : Nat := 147
abbrev m_Mo_contactOf : Nat := 148
abbrev m_Mo_inWay : Nat := 149
abbrev m_Mo_inHeight : Nat := 150
abbrev m_Mo_failing : Nat := 151
abbrev m_Mo_loadAll : Nat := 152
abbrev m_Mo_handsDown : Nat := 153
abbrev m_Mo_isHeld : Nat := 154
abbrev m_Mo_liesOf : Nat := 155
abbrev m_Mo_findPolygon : Nat := 156
abbrev m_Mo_rectangle : Nat := 157
abbrev m_Mo_point : Nat := 158
abbrev m_Mo_less : Nat := 159
abbrev m_Mo_turns : Nat := 160
abbrev m_Mo_cross : Nat := 161
abbrev m_Mo_centreOf : Nat := 162
abbrev m_Mo_liesAt : Nat := 163
abbrev m_Mo_cut : Nat := 164
abbrev m_Mo_bits : Nat := 165
abbrev m_Mo_on : Nat := 166
abbrev m_Mo_below : Nat := 167
abbrev m_Mo_contact : Nat := 168
abbrev m_Mo_load : Nat := 169
abbrev m_Mo_hands : Nat := 170
abbrev m_Mo_centre : Nat := 171
abbrev m_Mo_partOf : Nat := 172
abbrev m_Mo_common : Nat := 173
abbrev m_Mo_corner : Nat := 174
abbrev m_Mo_lies : Nat := 175
abbrev m_Mo_stands : Nat := 176
abbrev m_Mo_fails : Nat := 177
abbrev m_Mo_firstOf : Nat := 178
abbrev m_Mo_causeOf : Nat := 179
abbrev m_Mo_tilt : Nat := 180
abbrev m_Mo_most : Nat := 181
abbrev m_Mo_free : Nat := 182
abbrev m_Mo_way : Nat := 183
abbrev m_Mo_order : Nat := 184
abbrev m_Mo_findLine : Nat := 185
abbrev m_Mo_findWays : Nat := 186
abbrev m_Mo_without : Nat := 187
abbrev m_Mo_spot : Nat := 188
abbrev m_Mo_canCome : Nat := 189
abbrev m_Mo_bumps : Nat := 190
abbrev m_Mo_bumped : Nat := 191
abbrev m_Mo_chance : Nat := 192
abbrev m_Mo_feed : Nat := 193
abbrev m_Mo_text : Nat := 194
abbrev m_Mo_reads : Nat := 195
abbrev m_Mo_clause : Nat := 196
abbrev m_Mo_token : Nat := 197
abbrev m_Mo_isSort : Nat := 198
abbrev m_Mo_wordOf : Nat := 199
abbrev m_Mo_isDone : Nat := 200
abbrev m_Mo_tells : Nat := 201
abbrev m_Mo_kindsOf : Nat := 202
abbrev m_Mo_isSheet : Nat := 203
abbrev m_Mo_judges : Nat := 204
abbrev m_Mo_film : Nat := 205
abbrev m_Mo_comes : Nat := 206
abbrev m_Mo_image : Nat := 207
abbrev m_Mo_back : Nat := 208
abbrev m_Mo_count : Nat := 209
abbrev m_Mo_weights : Nat := 210
abbrev m_Mo_twos : Nat := 211
abbrev m_Mo_toFloor : Nat := 212
abbrev m_Mo_sheet : Nat := 213
abbrev m_Mo_put : Nat := 214
abbrev m_Mo_copy : Nat := 215
abbrev m_Ar_fill : Nat := 216
abbrev m_In_bitCount : Nat := 217
abbrev m_St_length : Nat := 218
abbrev m_St_coder : Nat := 219
abbrev m_St_charAt : Nat := 220
abbrev m_St_isLatin1 : Nat := 221
abbrev m_SL_charAt : Nat := 222
abbrev m_Law_law : Nat := 223
def nMeth : Nat := 223
def oTab : List String := [RX0, RX1, RX2, RX3, RX4, RX5, RX6, RX7, RX8, RJ7, RJ6, RJ9, RJ0, RJ1, RL]
def oN (i : Nat) : String := oTab.getD i ""
/-- whose code, entry of its pool, class of the field, its place there, 1: of a nest mate; the place of the word -/
def fldL : List (Nat × Nat × Nat × Nat × Nat × Nat) := [(0, 9, 0, 0, 0, 207), (0, 17, 0, 1, 0, 209), (0, 20, 0, 2, 0, 211), (0, 24, 0, 3, 0, 213), (0, 29, 0, 4, 0, 215), (0, 36, 0, 5, 0, 217),
  (0, 40, 0, 6, 0, 218), (0, 45, 3, 0, 1, 148), (0, 55, 1, 8, 1, 123), (0, 78, 3, 1, 1, 151), (0, 125, 1, 7, 1, 122), (0, 136, 4, 5, 1, 191),
  (1, 9, 1, 0, 0, 101), (1, 15, 1, 1, 0, 104), (1, 18, 1, 2, 0, 107), (1, 21, 1, 3, 0, 110), (1, 24, 1, 4, 0, 113), (1, 27, 1, 5, 0, 116),
  (1, 30, 1, 6, 0, 118), (1, 33, 1, 7, 0, 120), (1, 36, 1, 8, 0, 124), (2, 12, 2, 0, 0, 242), (2, 18, 2, 1, 0, 243), (2, 22, 2, 2, 0, 244),
  (2, 25, 2, 3, 0, 245), (2, 28, 2, 4, 0, 246), (2, 63, 3, 3, 1, 156), (3, 11, 3, 0, 0, 147), (3, 19, 3, 1, 0, 150), (3, 22, 3, 2, 0, 153),
  (3, 26, 3, 3, 0, 155), (3, 58, 1, 0, 1, 103), (3, 61, 1, 1, 1, 106), (3, 64, 1, 2, 1, 109), (3, 67, 1, 3, 1, 112), (3, 70, 1, 5, 1, 117),
  (3, 73, 1, 6, 1, 119), (3, 76, 1, 7, 1, 121), (3, 79, 1, 8, 1, 126), (3, 86, 1, 4, 1, 115), (4, 9, 4, 0, 0, 183), (4, 15, 4, 1, 0, 184),
  (4, 18, 4, 2, 0, 185), (4, 21, 4, 3, 0, 187), (4, 24, 4, 4, 0, 189), (4, 28, 4, 5, 0, 190), (5, 9, 5, 0, 0, 305), (5, 15, 5, 1, 0, 307),
  (5, 19, 5, 2, 0, 309), (6, 9, 6, 0, 0, 266), (6, 15, 6, 1, 0, 267), (6, 19, 6, 2, 0, 269), (6, 24, 6, 3, 0, 271), (6, 27, 6, 4, 0, 273),
  (6, 30, 6, 5, 0, 275), (6, 33, 6, 6, 0, 276), (6, 36, 6, 7, 0, 277), (6, 39, 6, 8, 0, 278), (7, 14, 7, 0, 0, 318), (7, 18, 7, 1, 0, 319),
  (7, 21, 7, 2, 0, 320), (7, 27, 7, 3, 0, 321), (7, 34, 7, 4, 0, 322), (7, 41, 7, 5, 0, 323), (7, 47, 7, 6, 0, 324), (7, 51, 7, 7, 0, 325),
  (7, 64, 3, 0, 1, 149), (7, 68, 1, 0, 1, 102), (7, 74, 1, 1, 1, 105), (7, 77, 1, 2, 1, 108), (7, 80, 1, 3, 1, 111), (7, 83, 1, 4, 1, 114),
  (7, 90, 1, 8, 1, 125), (7, 115, 3, 3, 1, 157), (7, 142, 3, 1, 1, 152), (7, 149, 0, 0, 1, 208), (7, 156, 0, 1, 1, 210), (7, 167, 0, 2, 1, 212),
  (7, 171, 0, 3, 1, 214), (7, 183, 0, 4, 1, 216), (7, 187, 4, 5, 1, 192), (7, 192, 4, 2, 1, 186), (7, 195, 4, 3, 1, 188), (7, 227, 2, 4, 1, 247),
  (7, 236, 3, 2, 1, 154), (7, 249, 6, 1, 1, 268), (7, 258, 6, 4, 1, 274), (7, 261, 6, 3, 1, 272), (7, 264, 6, 2, 1, 270), (7, 288, 5, 2, 1, 310),
  (7, 289, 5, 0, 1, 306), (7, 296, 5, 1, 1, 308), (8, 9, 8, 0, 0, 914), (8, 15, 8, 1, 0, 915), (8, 18, 8, 3, 0, 917), (8, 21, 8, 4, 0, 918),
  (8, 24, 8, 5, 0, 919), (8, 27, 8, 6, 0, 920), (8, 30, 8, 7, 0, 921), (8, 33, 8, 8, 0, 922), (8, 36, 8, 15, 0, 929), (8, 39, 8, 16, 0, 930),
  (8, 42, 8, 18, 0, 932), (8, 45, 8, 19, 0, 933), (8, 48, 8, 20, 0, 934), (8, 51, 8, 21, 0, 935), (8, 55, 8, 26, 0, 940), (8, 58, 8, 27, 0, 941),
  (8, 61, 8, 28, 0, 942), (8, 64, 8, 31, 0, 945), (8, 108, 8, 9, 0, 923), (8, 115, 8, 10, 0, 924), (8, 160, 8, 11, 0, 925), (8, 163, 8, 12, 0, 926),
  (8, 166, 8, 13, 0, 927), (8, 169, 8, 14, 0, 928), (8, 241, 8, 17, 0, 931), (8, 255, 8, 22, 0, 936), (8, 258, 8, 25, 0, 939), (8, 261, 8, 23, 0, 937),
  (8, 264, 8, 24, 0, 938), (8, 299, 8, 29, 0, 943), (8, 302, 8, 30, 0, 944), (8, 316, 8, 2, 0, 916)]
def mthL : List (Nat × Nat × Nat × Nat × Nat) := [(0, 35, 37, 0, 177), (0, 44, 49, 1, 179), (0, 49, 216, 0, 484), (0, 60, 26, 0, 485), (0, 64, 27, 0, 489), (0, 67, 75, 1, 493),
  (0, 71, 2, 0, 494), (0, 75, 5, 0, 515), (0, 81, 45, 0, 498), (0, 85, 3, 0, 502), (0, 89, 4, 0, 506), (0, 95, 16, 0, 511),
  (0, 99, 15, 0, 512), (0, 102, 18, 0, 513), (0, 105, 17, 0, 514), (0, 108, 50, 0, 519), (0, 111, 28, 0, 523), (0, 115, 51, 0, 527),
  (0, 119, 52, 0, 535), (0, 122, 9, 0, 890), (0, 132, 54, 0, 558), (0, 139, 21, 0, 551), (0, 142, 8, 0, 552), (0, 146, 22, 0, 562),
  (0, 149, 7, 0, 547), (0, 152, 43, 0, 651), (1, 39, 18, 0, 387), (1, 43, 17, 0, 383), (1, 46, 19, 0, 479), (1, 50, 15, 0, 375),
  (1, 53, 16, 0, 379), (1, 56, 28, 0, 587), (2, 11, 0, 0, 241), (2, 31, 216, 0, 455), (2, 37, 75, 1, 462), (2, 41, 43, 0, 463),
  (2, 47, 44, 0, 467), (2, 50, 1, 0, 480), (2, 54, 6, 0, 543), (2, 56, 32, 0, 681), (2, 59, 35, 0, 682), (2, 67, 36, 0, 687),
  (2, 71, 33, 0, 686), (3, 29, 13, 1, 97), (3, 30, 30, 0, 708), (3, 40, 41, 0, 418), (3, 44, 75, 1, 368), (3, 48, 71, 1, 351),
  (3, 51, 72, 1, 354), (3, 54, 74, 1, 360), (3, 82, 39, 0, 364), (3, 89, 19, 0, 391), (3, 93, 40, 0, 398), (3, 97, 14, 0, 371),
  (3, 106, 24, 0, 471), (3, 110, 25, 0, 475), (3, 113, 45, 0, 884), (3, 116, 217, 0, 885), (4, 31, 16, 0, 531), (4, 37, 15, 0, 532),
  (4, 40, 18, 0, 533), (4, 43, 17, 0, 534), (4, 46, 53, 0, 539), (5, 22, 216, 0, 858), (6, 42, 62, 0, 750), (6, 46, 63, 0, 754),
  (6, 52, 64, 0, 758), (6, 56, 65, 0, 761), (6, 59, 67, 0, 821), (6, 62, 68, 0, 824), (6, 67, 66, 0, 766), (6, 77, 218, 0, 770),
  (6, 83, 220, 0, 780), (7, 13, 37, 0, 88), (7, 26, 0, 0, 169), (7, 33, 31, 1, 236), (7, 40, 59, 1, 261), (7, 55, 55, 1, 301),
  (7, 56, 38, 0, 347), (7, 60, 41, 0, 406), (7, 86, 20, 0, 410), (7, 93, 42, 0, 414), (7, 96, 21, 0, 419), (7, 99, 22, 0, 423),
  (7, 102, 71, 0, 431), (7, 105, 74, 0, 436), (7, 109, 23, 0, 441), (7, 112, 32, 0, 451), (7, 118, 33, 0, 458), (7, 122, 217, 0, 563),
  (7, 128, 45, 0, 573), (7, 132, 43, 0, 574), (7, 135, 83, 0, 579), (7, 139, 29, 0, 583), (7, 146, 85, 0, 592), (7, 153, 9, 0, 601),
  (7, 159, 88, 0, 609), (7, 162, 89, 0, 612), (7, 176, 3, 0, 617), (7, 179, 90, 0, 618), (7, 198, 8, 0, 629), (7, 202, 10, 0, 634),
  (7, 205, 6, 0, 642), (7, 208, 95, 0, 643), (7, 211, 11, 0, 647), (7, 214, 7, 0, 652), (7, 217, 97, 0, 657), (7, 220, 44, 0, 672),
  (7, 223, 34, 0, 677), (7, 230, 1, 0, 596), (7, 233, 72, 0, 699), (7, 239, 104, 0, 700), (7, 243, 106, 0, 719), (7, 246, 110, 0, 735),
  (7, 251, 60, 0, 738), (7, 255, 61, 0, 746), (7, 267, 70, 0, 830), (7, 270, 77, 0, 831), (7, 272, 78, 0, 832), (7, 275, 80, 0, 833),
  (7, 278, 113, 0, 839), (7, 281, 114, 0, 843), (7, 284, 56, 0, 846), (7, 292, 57, 0, 854), (7, 301, 46, 0, 704), (7, 304, 47, 0, 876),
  (7, 307, 48, 0, 880), (7, 310, 12, 0, 886), (7, 313, 58, 0, 903), (7, 324, 73, 0, 357), (7, 327, 107, 0, 723), (7, 331, 75, 0, 646),
  (8, 67, 125, 0, 1016), (8, 71, 137, 0, 1059), (8, 75, 128, 0, 1026), (8, 79, 129, 0, 1030), (8, 83, 132, 0, 1041), (8, 87, 134, 0, 1048),
  (8, 91, 131, 0, 1037), (8, 95, 133, 0, 1044), (8, 98, 130, 0, 1033), (8, 101, 148, 0, 1101), (8, 104, 153, 0, 1121), (8, 112, 158, 0, 1141),
  (8, 118, 161, 0, 1152), (8, 121, 157, 0, 1137), (8, 125, 135, 0, 1052), (8, 128, 159, 0, 1145), (8, 131, 160, 0, 1148), (8, 135, 164, 0, 1167),
  (8, 139, 156, 0, 1133), (8, 144, 162, 0, 1157), (8, 152, 163, 0, 1163), (8, 156, 152, 0, 1117), (8, 172, 154, 0, 1125), (8, 175, 138, 0, 1063),
  (8, 178, 155, 0, 1129), (8, 181, 139, 0, 1066), (8, 184, 150, 0, 1109), (8, 187, 147, 0, 1097), (8, 190, 149, 0, 1105), (8, 193, 151, 0, 1113),
  (8, 196, 126, 0, 1019), (8, 199, 127, 0, 1022), (8, 203, 141, 0, 1073), (8, 208, 144, 0, 1086), (8, 211, 146, 0, 1093), (8, 214, 165, 0, 1170),
  (8, 217, 167, 0, 1177), (8, 220, 173, 0, 1202), (8, 228, 172, 0, 1199), (8, 232, 178, 0, 1221), (8, 235, 179, 0, 1224), (8, 238, 186, 0, 1252),
  (8, 244, 185, 0, 1248), (8, 247, 189, 0, 1264), (8, 252, 191, 0, 1272), (8, 267, 198, 0, 1301), (8, 270, 197, 0, 1297), (8, 273, 199, 0, 1305),
  (8, 276, 124, 0, 1313), (8, 280, 140, 0, 1314), (8, 283, 142, 0, 1315), (8, 286, 145, 0, 1316), (8, 289, 196, 0, 1293), (8, 292, 200, 0, 1309),
  (8, 295, 195, 0, 1289), (8, 305, 202, 0, 1321), (8, 308, 203, 0, 1325), (8, 311, 204, 0, 1328), (8, 320, 210, 0, 1353), (8, 323, 211, 0, 1357),
  (8, 326, 212, 0, 1361), (12, 335, 219, 0, 774), (12, 492, 221, 0, 784), (12, 495, 222, 0, 788), (14, 9, 69, 0, 80), (14, 12, 123, 0, 910),
  (14, 13, 70, 0, 343), (14, 17, 124, 0, 1012), (14, 18, 76, 0, 402), (14, 22, 136, 0, 1055), (14, 23, 77, 0, 427), (14, 27, 140, 0, 1069),
  (14, 28, 78, 0, 432), (14, 31, 142, 0, 1077), (14, 32, 79, 0, 437), (14, 35, 143, 0, 1082), (14, 36, 80, 0, 447), (14, 40, 145, 0, 1089),
  (14, 41, 81, 0, 569), (14, 44, 166, 0, 1173), (14, 45, 82, 0, 575), (14, 48, 168, 0, 1181), (14, 49, 84, 0, 588), (14, 52, 169, 0, 1185),
  (14, 53, 86, 0, 597), (14, 56, 170, 0, 1189), (14, 57, 87, 0, 605), (14, 61, 171, 0, 1193), (14, 62, 91, 0, 621), (14, 65, 174, 0, 1205),
  (14, 66, 92, 0, 625), (14, 69, 175, 0, 1209), (14, 70, 93, 0, 630), (14, 73, 176, 0, 1213), (14, 74, 94, 0, 638), (14, 77, 177, 0, 1217),
  (14, 78, 96, 0, 653), (14, 81, 180, 0, 1228), (14, 82, 98, 0, 660), (14, 85, 181, 0, 1232), (14, 86, 99, 0, 664), (14, 90, 182, 0, 1236),
  (14, 91, 100, 0, 668), (14, 94, 183, 0, 1240), (14, 95, 101, 0, 673), (14, 98, 184, 0, 1244), (14, 99, 102, 0, 691), (14, 102, 187, 0, 1256),
  (14, 103, 103, 0, 695), (14, 106, 188, 0, 1260), (14, 107, 105, 0, 715), (14, 110, 190, 0, 1268), (14, 111, 108, 0, 727), (14, 115, 192, 0, 1277),
  (14, 116, 109, 0, 731), (14, 120, 193, 0, 1281), (14, 121, 111, 0, 742), (14, 124, 194, 0, 1285), (14, 125, 112, 0, 835), (14, 128, 201, 0, 1317),
  (14, 129, 115, 0, 850), (14, 132, 205, 0, 1332), (14, 133, 116, 0, 859), (14, 136, 206, 0, 1336), (14, 137, 117, 0, 864), (14, 140, 207, 0, 1341),
  (14, 141, 118, 0, 868), (14, 144, 208, 0, 1345), (14, 145, 119, 0, 872), (14, 148, 209, 0, 1349), (14, 149, 120, 0, 891), (14, 152, 213, 0, 1365),
  (14, 153, 121, 0, 895), (14, 156, 214, 0, 1369), (14, 157, 122, 0, 899), (14, 160, 215, 0, 1373)]
/-- places of a method's words: its code, instance or static, selects, initialized -/
def wTab : List (Nat × Nat × Nat × Nat) := [(171, 170, 0, 64), (483, 481, 482, 64), (497, 496, 2, 64), (505, 503, 504, 64), (509, 508, 3, 64), (518, 517, 4, 64), (546, 544, 545, 64), (550, 548, 549, 64),
  (555, 553, 554, 64), (604, 602, 603, 64), (637, 635, 636, 64), (650, 648, 649, 64), (889, 887, 888, 64), (99, 98, 0, 63), (374, 372, 373, 63), (378, 376, 377, 63),
  (382, 380, 381, 63), (386, 384, 385, 63), (390, 388, 389, 63), (394, 392, 393, 63), (413, 411, 412, 63), (422, 420, 421, 63), (426, 424, 425, 63), (444, 442, 443, 63),
  (474, 472, 473, 63), (478, 476, 477, 63), (488, 486, 487, 63), (492, 490, 491, 63), (526, 524, 525, 63), (586, 584, 585, 63), (711, 709, 710, 63), (238, 237, 0, 66),
  (454, 452, 453, 66), (461, 459, 460, 66), (680, 678, 679, 66), (685, 684, 8, 66), (690, 689, 9, 66), (90, 89, 0, 62), (350, 348, 349, 62), (367, 366, 0, 62),
  (401, 400, 1, 62), (409, 407, 408, 62), (417, 415, 416, 62), (466, 464, 465, 62), (470, 468, 469, 62), (501, 499, 500, 62), (707, 705, 706, 62), (879, 877, 878, 62),
  (883, 881, 882, 62), (181, 180, 0, 65), (522, 520, 521, 65), (530, 528, 529, 65), (538, 536, 537, 65), (542, 541, 5, 65), (561, 559, 560, 65), (303, 302, 0, 68),
  (849, 847, 848, 68), (857, 855, 856, 68), (906, 904, 905, 68), (263, 262, 0, 67), (741, 739, 740, 67), (749, 747, 748, 67), (753, 752, 12, 67), (757, 756, 13, 67),
  (760, 759, 0, 67), (764, 763, 14, 67), (769, 768, 15, 67), (823, 822, 0, 67), (827, 826, 16, 67), (82, 81, 0, 61), (346, 344, 345, 61), (353, 352, 0, 61),
  (356, 355, 0, 61), (359, 358, 0, 61), (362, 361, 0, 61), (370, 369, 0, 61), (405, 403, 404, 61), (430, 428, 429, 61), (435, 433, 434, 61), (440, 438, 439, 61),
  (450, 448, 449, 61), (572, 570, 571, 61), (578, 576, 577, 61), (582, 581, 6, 61), (591, 589, 590, 61), (595, 594, 7, 61), (600, 598, 599, 61), (608, 606, 607, 61),
  (611, 610, 0, 61), (614, 613, 0, 61), (620, 619, 0, 61), (624, 622, 623, 61), (628, 626, 627, 61), (633, 631, 632, 61), (641, 639, 640, 61), (645, 644, 0, 61),
  (656, 654, 655, 61), (659, 658, 0, 61), (663, 661, 662, 61), (667, 665, 666, 61), (671, 669, 670, 61), (676, 674, 675, 61), (694, 692, 693, 61), (698, 696, 697, 61),
  (703, 702, 10, 61), (718, 716, 717, 61), (722, 721, 11, 61), (725, 724, 0, 61), (730, 728, 729, 61), (734, 732, 733, 61), (737, 736, 0, 61), (745, 743, 744, 61),
  (838, 836, 837, 61), (842, 841, 17, 61), (845, 844, 0, 61), (853, 851, 852, 61), (862, 860, 861, 61), (867, 865, 866, 61), (871, 869, 870, 61), (875, 873, 874, 61),
  (894, 892, 893, 61), (898, 896, 897, 61), (902, 900, 901, 61), (912, 911, 0, 69), (1015, 1013, 1014, 69), (1018, 1017, 0, 69), (1021, 1020, 0, 69), (1025, 1024, 18, 69),
  (1029, 1028, 19, 69), (1032, 1031, 0, 69), (1036, 1035, 20, 69), (1040, 1039, 21, 69), (1043, 1042, 0, 69), (1047, 1046, 22, 69), (1051, 1050, 23, 69), (1054, 1053, 0, 69),
  (1058, 1056, 1057, 69), (1062, 1061, 24, 69), (1065, 1064, 0, 69), (1068, 1067, 0, 69), (1072, 1070, 1071, 69), (1076, 1075, 25, 69), (1080, 1078, 1079, 69), (1085, 1083, 1084, 69),
  (1088, 1087, 0, 69), (1092, 1090, 1091, 69), (1096, 1095, 26, 69), (1100, 1099, 27, 69), (1104, 1103, 28, 69), (1108, 1107, 29, 69), (1112, 1111, 30, 69), (1116, 1115, 31, 69),
  (1120, 1119, 32, 69), (1124, 1123, 33, 69), (1128, 1127, 34, 69), (1132, 1131, 35, 69), (1136, 1135, 36, 69), (1140, 1139, 37, 69), (1144, 1143, 38, 69), (1147, 1146, 0, 69),
  (1151, 1150, 39, 69), (1155, 1154, 40, 69), (1160, 1159, 41, 69), (1166, 1165, 42, 69), (1169, 1168, 0, 69), (1172, 1171, 0, 69), (1176, 1174, 1175, 69), (1180, 1179, 43, 69),
  (1184, 1182, 1183, 69), (1188, 1186, 1187, 69), (1192, 1190, 1191, 69), (1196, 1194, 1195, 69), (1201, 1200, 0, 69), (1204, 1203, 0, 69), (1208, 1206, 1207, 69), (1212, 1210, 1211, 69),
  (1216, 1214, 1215, 69), (1220, 1218, 1219, 69), (1223, 1222, 0, 69), (1227, 1226, 44, 69), (1231, 1229, 1230, 69), (1235, 1233, 1234, 69), (1239, 1237, 1238, 69), (1243, 1241, 1242, 69),
  (1247, 1245, 1246, 69), (1251, 1250, 45, 69), (1255, 1254, 46, 69), (1259, 1257, 1258, 69), (1263, 1261, 1262, 69), (1267, 1266, 47, 69), (1271, 1269, 1270, 69), (1275, 1274, 48, 69),
  (1280, 1278, 1279, 69), (1284, 1282, 1283, 69), (1288, 1286, 1287, 69), (1292, 1291, 49, 69), (1296, 1295, 50, 69), (1300, 1299, 51, 69), (1304, 1303, 52, 69), (1308, 1307, 53, 69),
  (1312, 1311, 54, 69), (1320, 1318, 1319, 69), (1324, 1323, 55, 69), (1327, 1326, 0, 69), (1331, 1330, 56, 69), (1335, 1333, 1334, 69), (1339, 1337, 1338, 69), (1344, 1342, 1343, 69),
  (1348, 1346, 1347, 69), (1352, 1350, 1351, 69), (1356, 1355, 57, 69), (1360, 1359, 58, 69), (1364, 1363, 59, 69), (1368, 1366, 1367, 69), (1372, 1370, 1371, 69), (1376, 1374, 1375, 69),
  (457, 456, 0, 71), (565, 564, 0, 72), (773, 771, 772, 74), (777, 775, 776, 74), (783, 781, 782, 74), (787, 785, 786, 74), (790, 789, 0, 75)]
def cstL : List (Nat × Nat × Int × Nat) := [(10, 265, 1431655765, 566), (10, 266, 858993459, 567), (10, 267, 252645135, 568), (7, 330, 1103515245, 726), (8, 251, 1103515245, 1276)]
def clgL : List (Nat × Nat × Int × Nat) := [(7, 322, 999, 363), (0, 93, 10, 510), (0, 128, 2, 556), (0, 130, 200, 557), (7, 165, -9223372036854775808, 615), (7, 174, 20, 616), (7, 299, 5, 863), (8, 206, 999, 1081), (8, 142, 10, 1156), (8, 148, 2, 1161), (8, 150, 200, 1162), (8, 224, -9223372036854775808, 1197),
  (8, 226, 20, 1198), (8, 314, 4, 1340)]
def strL : List (Nat × Nat × String × Nat) := [(6, 65, "box", 765), (6, 71, "kind", 818), (6, 73, "weigh", 819), (6, 75, "off", 820)]
/-- classes of new and anewarray by their numbers, 16: [[I -/
def clsL : List (Nat × Nat × Nat × Nat) := [(14, 7, 7, 78), (7, 11, 3, 86), (3, 9, 1, 92), (3, 17, 16, 94), (7, 24, 0, 167), (0, 15, 16, 173), (0, 27, 4, 174), (0, 33, 3, 176), (7, 31, 2, 234), (2, 9, 0, 240), (7, 38, 6, 259), (6, 22, 16, 265),
  (7, 45, 5, 298), (14, 10, 8, 908)]
/-- built in: 1 Object.<init>, 2 arraycopy, 3 String.checkIndex, 4 Math.max -/
def bltL : List (Nat × Nat × Nat × Nat) := [(7, 5, 1, 83), (3, 3, 1, 91), (1, 3, 1, 100), (0, 3, 1, 172), (4, 3, 1, 182), (2, 3, 1, 239), (6, 3, 1, 264), (5, 3, 1, 304), (3, 100, 4, 395), (3, 34, 2, 712), (13, 9, 3, 791), (7, 316, 2, 907),
  (8, 3, 1, 913)]
abbrev pw_acNative : Nat := 714
abbrev pw_acStatic : Nat := 713
abbrev pw_acInit : Nat := 73
abbrev pw_mxStatic : Nat := 396
abbrev pw_mxInit : Nat := 70
abbrev pw_mxCode : Nat := 397
abbrev pw_oiInst : Nat := 84
abbrev pw_oiCode : Nat := 85
abbrev pw_ciStatic : Nat := 792
abbrev pw_ciCode : Nat := 793
abbrev pw_stInit : Nat := 74
abbrev pw_pcLink : Nat := 796
abbrev pw_pcStatic : Nat := 797
abbrev pw_pcCode : Nat := 798
abbrev pw_pcInit : Nat := 76
abbrev pw_siLink : Nat := 794
abbrev pw_csLink : Nat := 778
abbrev pw_vaLink : Nat := 1377
abbrev pw_coLink : Nat := 1378
abbrev pw_kaNest : Nat := 445
abbrev pw_nbNest : Nat := 828
abbrev pw_arI : Nat := 146
abbrev pw_arJ : Nat := 206
abbrev pw_arC : Nat := 1011
abbrev pw_ao1 : Nat := 93
abbrev pw_ao4 : Nat := 175
abbrev pw_ao5 : Nat := 299
abbrev pw_aoI : Nat := 95
def instP : List Nat := [168, 96, 235, 87, 178, 300, 260, 79, 909]
def initP : List Nat := [64, 63, 66, 62, 65, 68, 67, 61, 69]
/-- kind and length of each cell: 0 .. 8 objects, 10 int, 11 long, 12 char, 13 .. 15 rows of boxes, polygons, sheets, 16 int[][] -/
def shL : List (Nat × Nat) := [(7, 8), (3, 4), (13, 7), (16, 7), (10, 7), (10, 7), (10, 7), (10, 7), (10, 7), (10, 7), (10, 7), (1, 9), (1, 9), (1, 9), (1, 9), (1, 9),
  (1, 9), (1, 9), (3, 4), (13, 7), (16, 7), (10, 7), (10, 7), (10, 7), (10, 7), (10, 7), (10, 7), (10, 7), (1, 9), (1, 9), (1, 9), (1, 9),
  (1, 9), (1, 9), (1, 9), (3, 4), (13, 7), (16, 7), (10, 7), (10, 7), (10, 7), (10, 7), (10, 7), (10, 7), (10, 7), (1, 9), (1, 9), (1, 9),
  (1, 9), (1, 9), (1, 9), (1, 9), (0, 7), (10, 7), (16, 7), (10, 7), (10, 7), (10, 7), (10, 7), (10, 7), (10, 7), (10, 7), (11, 7), (11, 7),
  (14, 7), (3, 4), (13, 7), (16, 7), (10, 7), (10, 7), (10, 7), (10, 7), (10, 7), (10, 7), (10, 7), (1, 9), (1, 9), (1, 9), (1, 9), (1, 9),
  (1, 9), (1, 9), (4, 6), (10, 28), (10, 28), (10, 28), (10, 28), (4, 6), (10, 28), (10, 28), (10, 28), (10, 28), (4, 6), (10, 28), (10, 28), (10, 28),
  (10, 28), (4, 6), (10, 28), (10, 28), (10, 28), (10, 28), (4, 6), (10, 28), (10, 28), (10, 28), (10, 28), (4, 6), (10, 28), (10, 28), (10, 28), (10, 28),
  (4, 6), (10, 28), (10, 28), (10, 28), (10, 28), (2, 5), (0, 7), (10, 7), (16, 7), (10, 7), (10, 7), (10, 7), (10, 7), (10, 7), (10, 7), (10, 7),
  (11, 7), (11, 7), (14, 7), (3, 4), (13, 7), (16, 7), (10, 7), (10, 7), (10, 7), (10, 7), (10, 7), (10, 7), (10, 7), (1, 9), (1, 9), (1, 9),
  (1, 9), (1, 9), (1, 9), (1, 9), (4, 6), (10, 28), (10, 28), (10, 28), (10, 28), (4, 6), (10, 28), (10, 28), (10, 28), (10, 28), (4, 6), (10, 28),
  (10, 28), (10, 28), (10, 28), (4, 6), (10, 28), (10, 28), (10, 28), (10, 28), (4, 6), (10, 28), (10, 28), (10, 28), (10, 28), (4, 6), (10, 28), (10, 28),
  (10, 28), (10, 28), (4, 6), (10, 28), (10, 28), (10, 28), (10, 28), (10, 128), (10, 128), (10, 128), (10, 7), (6, 9), (10, 60), (10, 13), (16, 13), (10, 5),
  (10, 5), (10, 5), (10, 5), (10, 5), (10, 5), (10, 5), (10, 5), (10, 5), (10, 5), (10, 5), (10, 5), (10, 5), (15, 4), (5, 3), (10, 40), (5, 3),
  (10, 40), (5, 3), (10, 40), (5, 3), (10, 40), (8, 32), (10, 74), (10, 74), (10, 8), (10, 64), (10, 32), (10, 32), (10, 64), (10, 64), (10, 128), (10, 8),
  (10, 60), (10, 5), (10, 4), (12, 20), (10, 4), (10, 4), (10, 160), (10, 40)]
def nCell : Nat := 232
def mdl : Int := 213
/-- 0: an int, 1: a reference that a constructor lays, 2: a reference that changes -/
def ftL : List (List Nat) := [[1, 1, 1, 1, 1, 2, 0], [0, 0, 0, 0, 0, 0, 0, 0, 0], [1, 1, 1, 1, 1], [1, 1, 0, 0], [1, 1, 1, 1, 0, 0], [1, 0, 0], [1, 0, 1, 1, 0, 0, 0, 0, 0], [1, 1, 1, 1, 1, 1, 1, 0], [1, 1, 0, 1, 1, 1, 1, 1, 1, 0, 0, 0, 0, 0, 0, 1, 1, 0, 1, 1, 1, 1, 0, 0, 0, 0, 1, 1, 1, 0, 0, 1]]
def rtL : List (List Int) := [[1, 18, 35, 52, 117, 187, 204, -1], [2, 3, -1, -1], [11, 12, 13, 14, 15, 16, 17], [4, 5, 6, 7, 8, 9, 10], [], [], [], [],
  [], [], [], [], [], [], [], [],
  [], [], [19, 20, -1, -1], [28, 29, 30, 31, 32, 33, 34], [21, 22, 23, 24, 25, 26, 27], [], [], [],
  [], [], [], [], [], [], [], [],
  [], [], [], [36, 37, -1, -1], [45, 46, 47, 48, 49, 50, 51], [38, 39, 40, 41, 42, 43, 44], [], [],
  [], [], [], [], [], [], [], [],
  [], [], [], [], [53, 54, 62, 63, 64, -1, -1], [], [55, 56, 57, 58, 59, 60, 61], [],
  [], [], [], [], [], [], [], [],
  [82, 87, 92, 97, 102, 107, 112], [66, 67, -1, -1], [75, 76, 77, 78, 79, 80, 81], [68, 69, 70, 71, 72, 73, 74], [], [], [], [],
  [], [], [], [], [], [], [], [],
  [], [], [83, 84, 85, 86, -1, -1], [], [], [], [], [88, 89, 90, 91, -1, -1],
  [], [], [], [], [93, 94, 95, 96, -1, -1], [], [], [],
  [], [98, 99, 100, 101, -1, -1], [], [], [], [], [103, 104, 105, 106, -1, -1], [],
  [], [], [], [108, 109, 110, 111, -1, -1], [], [], [], [],
  [113, 114, 115, 116, -1, -1], [], [], [], [], [118, 183, 184, 185, 186], [119, 120, 128, 129, 130, -1, -1], [],
  [121, 122, 123, 124, 125, 126, 127], [], [], [], [], [], [], [],
  [], [], [148, 153, 158, 163, 168, 173, 178], [132, 133, -1, -1], [141, 142, 143, 144, 145, 146, 147], [134, 135, 136, 137, 138, 139, 140], [], [],
  [], [], [], [], [], [], [], [],
  [], [], [], [], [149, 150, 151, 152, -1, -1], [], [], [],
  [], [154, 155, 156, 157, -1, -1], [], [], [], [], [159, 160, 161, 162, -1, -1], [],
  [], [], [], [164, 165, 166, 167, -1, -1], [], [], [], [],
  [169, 170, 171, 172, -1, -1], [], [], [], [], [174, 175, 176, 177, -1, -1], [], [],
  [], [], [179, 180, 181, 182, -1, -1], [], [], [], [], [],
  [], [], [], [188, -1, 189, 190, -1, -1, -1, -1, -1], [], [], [191, 192, 193, 194, 195, 196, 197, 198, 199, 200, 201, 202, 203], [],
  [], [], [], [], [], [], [], [],
  [], [], [], [], [205, 207, 209, 211], [206, -1, -1], [], [208, -1, -1],
  [], [210, -1, -1], [], [212, -1, -1], [], [214, 215, -1, 216, 217, 218, 219, 220, 221, -1, -1, -1, -1, -1, -1, 222, 223, -1, 224, 225, 226, 227, -1, -1, -1, -1, 228, 229, 230, -1, -1, 231], [], [],
  [], [], [], [], [], [], [], [],
  [], [], [], [], [], [], [], []]
def rtab (a k : Int) : Int := if 0 ≤ a ∧ 0 ≤ k then (rtL.getD a.toNat []).getD k.toNat (-1) else -1
end
section
/-! ===== the tables' words that the rows of the tables speak of ===== -/
def isNestF (e : Nat × Nat × Nat × Nat × Nat × Nat) : Cond := .fieldLinkNest (oN e.1) e.2.1 (vwCl.getD e.2.2.1 (RX0, TX0, 0)).1 ((vwCl.getD e.2.2.1 (RX0, TX0, 0)).2.1 e.2.2.2.1).2.1 ((vwCl.getD e.2.2.1 (RX0, TX0, 0)).2.1 e.2.2.2.1).2.2.1 RX7
def isPlainF (e : Nat × Nat × Nat × Nat × Nat × Nat) : Cond := .fieldLink (oN e.1) e.2.1 (vwCl.getD e.2.2.1 (RX0, TX0, 0)).1 ((vwCl.getD e.2.2.1 (RX0, TX0, 0)).2.1 e.2.2.2.1).2.1 ((vwCl.getD e.2.2.1 (RX0, TX0, 0)).2.1 e.2.2.2.1).2.2.1
def isNestM (e : Nat × Nat × Nat × Nat × Nat) : Cond := .methodLinkNest (oN e.1) e.2.1 (mY e.2.2.1) RX7
def isPlainM (e : Nat × Nat × Nat × Nat × Nat) : Cond := .methodLink (oN e.1) e.2.1 (mY e.2.2.1)
def fty (c k : Nat) : Nat := (ftL.getD c []).getD k 9
def WB : List Cond := lw_tbl.filter goodWord
theorem WB_in {w : Cond} {i : Nat} (h : lw_tbl[i]? = some w) (hg : goodWord w = true) : w ∈ WB := List.mem_filter.mpr ⟨List.mem_of_getElem? h, hg⟩
set_option maxRecDepth 1000000 in
theorem wc_all : wTab.map (fun q => lw_tbl[q.1]?) = (mTab.take nMeth).map (fun r => some (Cond.code r.1 r.2.1 r.2.2.1 r.2.2.2.1)) := rfl
def mwOk (i : Nat) : Bool := match wTab[i]? with
  | some q => decide (lw_tbl[q.2.1]? = some (if mK i = 1 then .static (mY i) else .instanceMethod (mY i))) && (decide (mK i = 0 → lw_tbl[q.2.2.1]? = some (.selects (mY i).cls (mY i) (mY i))) && decide (lw_tbl[q.2.2.2]? = some (.initialized (mY i).cls)))
  | none => false
theorem mw_all : (List.range nMeth).all mwOk = true := by decide +kernel
def mdOk (i : Nat) : Bool := decide ((parseMethodDescriptor (mY i).desc).map (fun d => d.parameters.length) = some (if mK i = 1 then mN i else mN i - 1)) && (decide (1 ≤ mN i ∨ mK i = 1) && (decide ((mY i).cls ≠ "java/lang/invoke/MethodHandle" ∧ (mY i).cls ≠ "java/lang/invoke/VarHandle") && (plainName (mY i).cls && (decide ((mY i).cls = oN (mO i)) && (decide (mK i = 2 ↔ (mY i).name = "<init>") && decide (mK i = 2 → mR i = none))))))
theorem md_all : (List.range nMeth).all mdOk = true := by decide +kernel
theorem fld_all : fldL.all (fun e => decide (lw_tbl[e.2.2.2.2.2]? = some (if e.2.2.2.2.1 = 1 then isNestF e else isPlainF e)) && decide (e.2.2.1 < 9 ∧ e.2.2.2.1 < (vwCl.getD e.2.2.1 (RX0, TX0, 0)).2.2 ∧ (fty e.2.2.1 e.2.2.2.1 = 0 ∨ fty e.2.2.1 e.2.2.2.1 = 1 ∨ fty e.2.2.1 e.2.2.2.1 = 2))) = true := by decide +kernel
theorem mth_all : mthL.all (fun e => decide (lw_tbl[e.2.2.2.2]? = some (if e.2.2.2.1 = 1 then isNestM e else isPlainM e)) && decide (e.2.2.1 < nMeth)) = true := by decide +kernel
theorem cst_all : cstL.all (fun e => decide (lw_tbl[e.2.2.2]? = some (.constant (oN e.1) e.2.1 (Int32.ofInt e.2.2.1)))) = true := by decide +kernel
theorem clg_all : clgL.all (fun e => decide (lw_tbl[e.2.2.2]? = some (.constantLong (oN e.1) e.2.1 (Int64.ofInt e.2.2.1)))) = true := by decide +kernel
end
section
/-! ===== THE PLAIN MACHINE: values are Ints (read modulo), cells are numbered, a step is a function ===== -/
abbrev PV : Type := Int ⊕ Int ⊕ Int
abbrev vI (x : Int) : PV := .inl x
abbrev vL (x : Int) : PV := .inr (.inl x)
abbrev vR (x : Int) : PV := .inr (.inr x)
abbrev PH : Type := Int → Int → Int
/-- how many cells there are, and what the reference slots hold (below 0: null) -/
abbrev PG : Type := Nat × (Int → Int → Int)
abbrev PL : Type := List (Option PV)
abbrev Cfg : Type := Nat × PL × List PV × PH × PG
abbrev Out : Type := Option PV × PH × PG
abbrev SR : Type := Cfg ⊕ (Nat × List PV × Cfg) ⊕ Out
def w32 (x : Int) : Int := (Int32.ofInt x).toInt
def w64 (x : Int) : Int := (Int64.ofInt x).toInt
def pcat (v : PV) : Nat := match v with
  | .inl _ => 1
  | .inr (.inl _) => 2
  | .inr (.inr _) => 1
def pcats (st : List PV) : Nat := (st.map pcat).sum
def u2 (h : Int → Int → Int) (a k v : Int) : Int → Int → Int := fun b j => if b = a then (if j = k then v else h b j) else h b j
def nx (pc : Nat) (ls : PL) (st : List PV) (h : PH) (g : PG) : Option SR := some (.inl (pc, ls, st, h, g))
def andI (x y : Int) : Int := (Int32.ofInt x &&& Int32.ofInt y).toInt
def orI (x y : Int) : Int := (Int32.ofInt x ||| Int32.ofInt y).toInt
def xorI (x y : Int) : Int := (Int32.ofInt x ^^^ Int32.ofInt y).toInt
def shlI (x y : Int) : Int := (Int32.ofInt x <<< (Int32.ofInt y &&& 31)).toInt
def shrI (x y : Int) : Int := (Int32.ofInt x >>> (Int32.ofInt y &&& 31)).toInt
def ushrI (x y : Int) : Int := ((Int32.ofInt x).toUInt32 >>> ((Int32.ofInt y).toUInt32 &&& Int32.toUInt32 31)).toInt32.toInt
def divI (x y : Int) : Int := (Int32.ofInt x / Int32.ofInt y).toInt
def remI (x y : Int) : Int := (Int32.ofInt x - Int32.ofInt x / Int32.ofInt y * Int32.ofInt y).toInt
def divL (x y : Int) : Int := (Int64.ofInt x / Int64.ofInt y).toInt
def remL (x y : Int) : Int := (Int64.ofInt x - Int64.ofInt x / Int64.ofInt y * Int64.ofInt y).toInt
def i2bI (x : Int) : Int := (Int32.ofInt x).toInt8.toInt32.toInt
def i2cI (x : Int) : Int := ((Int32.ofInt x).toUInt32 % 65536).toInt32.toInt
def cmpL (x y : Int) : Int := if w64 y < w64 x then 1 else if w64 x = w64 y then 0 else -1
def bI (f : Int → Int → Int) (pc : Nat) (ls : PL) (st : List PV) (h : PH) (g : PG) : Option SR := match st with
  | .inl y :: .inl x :: st => nx (pc + 1) ls (.inl (f x y) :: st) h g
  | _ => none
def bL (f : Int → Int → Int) (pc : Nat) (ls : PL) (st : List PV) (h : PH) (g : PG) : Option SR := match st with
  | .inr (.inl y) :: .inr (.inl x) :: st => nx (pc + 1) ls (.inr (.inl (f x y)) :: st) h g
  | _ => none
def qI (f : Int → Int → Int) (pc : Nat) (ls : PL) (st : List PV) (h : PH) (g : PG) : Option SR := match st with
  | .inl y :: .inl x :: st => if w32 y = 0 then none else nx (pc + 1) ls (.inl (f x y) :: st) h g
  | _ => none
def qL (f : Int → Int → Int) (pc : Nat) (ls : PL) (st : List PV) (h : PH) (g : PG) : Option SR := match st with
  | .inr (.inl y) :: .inr (.inl x) :: st => if w64 y = 0 then none else nx (pc + 1) ls (.inr (.inl (f x y)) :: st) h g
  | _ => none
def uI (f : Int → Int) (pc : Nat) (ls : PL) (st : List PV) (h : PH) (g : PG) : Option SR := match st with
  | .inl x :: st => nx (pc + 1) ls (.inl (f x) :: st) h g
  | _ => none
def tgtOf (pc : Nat) (off : Int) : Nat := ((pc : Int) + off).toNat
def jmp (pc : Nat) (off : Int) (ls : PL) (st : List PV) (h : PH) (g : PG) : Option SR := if 0 ≤ (pc : Int) + off then nx (tgtOf pc off) ls st h g else none
def ccmp (c : ClassFile.Cond) (x y : Int) : Bool := match c with
  | .eq => decide (w32 x = w32 y)
  | .ne => !decide (w32 x = w32 y)
  | .lt => decide (w32 x < w32 y)
  | .ge => !decide (w32 x < w32 y)
  | .gt => decide (w32 y < w32 x)
  | .le => !decide (w32 y < w32 x)
def jc (c : ClassFile.Cond) (x y : Int) (pc : Nat) (off : Int) (ls : PL) (st : List PV) (h : PH) (g : PG) : Option SR :=
  if 0 ≤ (pc : Int) + off then (if ccmp c x y = true then nx (tgtOf pc off) ls st h g else nx (pc + 3) ls st h g) else none
def lget (ls : PL) (i : Nat) : Option PV := (ls[i]?).join
def ldv (i len pc : Nat) (k : Nat) (ls : PL) (st : List PV) (h : PH) (g : PG) : Option SR := match lget ls i, k with
  | some (.inl x), 0 => nx (pc + len) ls (.inl x :: st) h g
  | some (.inr (.inl x)), 1 => nx (pc + len) ls (.inr (.inl x) :: st) h g
  | some (.inr (.inr x)), 2 => nx (pc + len) ls (.inr (.inr x) :: st) h g
  | _, _ => none
/-- no long stands just before slot i -/
def lfree (ls : PL) (i : Nat) : Bool := match i with
  | 0 => true
  | j + 1 => match lget ls j with
    | some v => decide (pcat v = 1)
    | none => true
def st1 (i len pc : Nat) (v : PV) (ls : PL) (st : List PV) (h : PH) (g : PG) : Option SR :=
  if i < ls.length ∧ lfree ls i = true then nx (pc + len) (ls.set i (some v)) st h g else none
def st2 (i len pc : Nat) (v : PV) (ls : PL) (st : List PV) (h : PH) (g : PG) : Option SR :=
  if i + 1 < ls.length ∧ lfree ls i = true then nx (pc + len) ((ls.set i (some v)).set (i + 1) none) st h g else none
def stv (i len pc : Nat) (k : Nat) (ls : PL) (st : List PV) (h : PH) (g : PG) : Option SR := match st, k with
  | .inl x :: st, 0 => st1 i len pc (.inl x) ls st h g
  | .inr (.inl x) :: st, 1 => st2 i len pc (.inr (.inl x)) ls st h g
  | .inr (.inr x) :: st, 2 => st1 i len pc (.inr (.inr x)) ls st h g
  | _, _ => none
/-! cells -/
def sid (a : Int) : Nat × Nat := if 0 ≤ a ∧ a < 1000 then shL.getD a.toNat (99, 0) else (99, 0)
/-- cell a is there and of kind k -/
def isO (a : Int) (k n : Nat) : Bool := decide (0 ≤ a) && (decide (a < n) && decide ((sid a).1 = k))
def alen (a : Int) : Nat := (sid a).2
/-- kinds and lengths of the rows that nobody writes: 1000, 1001 the class's tables, 1020 .. the texts' bytes, 2000 the script z, its length z (-1) -/
def roK (a : Int) : Nat := if a = 1000 ∨ a = 1001 ∨ a = 2000 then 10 else if 1020 ≤ a ∧ a < 1024 then 17 else 99
def roT : List (Int × List Int) := [(1000, [-1, 0, 0, 1, 0, 2]), (1001, [5, 3, 3, 1]), (1020, [98, 111, 120]), (1021, [107, 105, 110, 100]), (1022, [119, 101, 105, 103, 104]), (1023, [111, 102, 102])]
def roL (a : Int) : List Int := match roT.find? (fun q => q.1 == a) with
  | some q => q.2
  | none => []
def roN (z : Int → Int) (a : Int) : Int := if a = 2000 then z (-1) else ((roL a).length : Int)
def roV (z : Int → Int) (a i : Int) : Int := if a = 2000 then z i else (roL a).getD i.toNat 0
def fldT (o i : Nat) : Option (Nat × Nat × Nat) := (fldL.find? (fun e => e.1 == o && e.2.1 == i)).map (fun e => (e.2.2.1, e.2.2.2.1, e.2.2.2.2.1))
def mthT (o i : Nat) : Option (Nat × Nat) := (mthL.find? (fun e => e.1 == o && e.2.1 == i)).map (fun e => (e.2.2.1, e.2.2.2.1))
def cstT (o i : Nat) : Option Int := (cstL.find? (fun e => e.1 == o && e.2.1 == i)).map (fun e => e.2.2.1)
def clgT (o i : Nat) : Option Int := (clgL.find? (fun e => e.1 == o && e.2.1 == i)).map (fun e => e.2.2.1)
/-- which text constant (from 0) -/
def strT (o i : Nat) : Option Nat := strL.findIdx? (fun e => e.1 == o && e.2.1 == i)
def clsT (o i : Nat) : Option Nat := (clsL.find? (fun e => e.1 == o && e.2.1 == i)).map (fun e => e.2.2.1)
def bltT (o i : Nat) : Option Nat := (bltL.find? (fun e => e.1 == o && e.2.1 == i)).map (fun e => e.2.2.1)
/-- a row is read: of kind k -/
def ald (z : Int → Int) (k : Nat) (h : PH) (n : Nat) (a i : Int) : Option Int :=
  if isO a k n = true then (if 0 ≤ w32 i ∧ w32 i < alen a then some (h a (w32 i)) else none)
  else if roK a = k ∧ k < 99 then (if 0 ≤ w32 i ∧ w32 i < roN z a then some (roV z a (w32 i)) else none) else none
def aldI (z : Int → Int) (k : Nat) (pc : Nat) (ls : PL) (st : List PV) (h : PH) (g : PG) : Option SR := match st with
  | .inl i :: .inr (.inr a) :: st => match ald z k h g.1 a i with
    | some v => nx (pc + 1) ls (.inl v :: st) h g
    | none => none
  | _ => none
def aldL (pc : Nat) (ls : PL) (st : List PV) (h : PH) (g : PG) : Option SR := match st with
  | .inl i :: .inr (.inr a) :: st => if isO a 11 g.1 = true ∧ 0 ≤ w32 i ∧ w32 i < alen a then nx (pc + 1) ls (.inr (.inl (h a (w32 i))) :: st) h g else none
  | _ => none
def isQ (a : Int) (n : Nat) : Bool := isO a 13 n || (isO a 14 n || (isO a 15 n || isO a 16 n))
def aldR (pc : Nat) (ls : PL) (st : List PV) (h : PH) (g : PG) : Option SR := match st with
  | .inl i :: .inr (.inr a) :: st => if isQ a g.1 = true ∧ 0 ≤ w32 i ∧ w32 i < alen a ∧ 0 ≤ g.2 a (w32 i) then nx (pc + 1) ls (.inr (.inr (g.2 a (w32 i))) :: st) h g else none
  | _ => none
def astI (k : Nat) (ok : Int → Bool) (pc : Nat) (ls : PL) (st : List PV) (h : PH) (g : PG) : Option SR := match st with
  | .inl v :: .inl i :: .inr (.inr a) :: st => if isO a k g.1 = true ∧ 0 ≤ w32 i ∧ w32 i < alen a ∧ ok v = true then nx (pc + 1) ls st (u2 h a (w32 i) v) g else none
  | _ => none
def astL (pc : Nat) (ls : PL) (st : List PV) (h : PH) (g : PG) : Option SR := match st with
  | .inr (.inl v) :: .inl i :: .inr (.inr a) :: st => if isO a 11 g.1 = true ∧ 0 ≤ w32 i ∧ w32 i < alen a then nx (pc + 1) ls st (u2 h a (w32 i) v) g else none
  | _ => none
/-- what kind of objects a row of kind 13, 14, 15 holds -/
def eltK (k : Nat) : Nat := if k = 13 then 1 else if k = 14 then 4 else if k = 15 then 5 else 98
def astR (pc : Nat) (ls : PL) (st : List PV) (h : PH) (g : PG) : Option SR := match st with
  | .inr (.inr v) :: .inl i :: .inr (.inr a) :: st => if isO a (sid a).1 g.1 = true ∧ isO v (eltK (sid a).1) g.1 = true ∧ 0 ≤ w32 i ∧ w32 i < alen a then nx (pc + 1) ls st h (g.1, u2 g.2 a (w32 i) v) else none
  | _ => none
def alenI (z : Int → Int) (pc : Nat) (ls : PL) (st : List PV) (h : PH) (g : PG) : Option SR := match st with
  | .inr (.inr a) :: st => if isO a (sid a).1 g.1 = true ∧ 10 ≤ (sid a).1 ∧ (sid a).1 ≤ 16 then nx (pc + 1) ls (.inl (alen a) :: st) h g
    else if roK a < 99 then nx (pc + 1) ls (.inl (roN z a) :: st) h g else none
  | _ => none
def getF (o i pc : Nat) (ls : PL) (st : List PV) (h : PH) (g : PG) : Option SR := match st with
  | .inr (.inr a) :: st => match fldT o i with
    | some (c, k, _) => if isO a c g.1 = true then
        (if fty c k = 0 then nx (pc + 3) ls (.inl (h a k) :: st) h g
        else if fty c k = 1 then (if 0 ≤ g.2 a k then nx (pc + 3) ls (.inr (.inr (g.2 a k)) :: st) h g else none)
        else if fty c k = 2 then (if 0 ≤ h a k then nx (pc + 3) ls (.inr (.inr (h a k)) :: st) h g else none) else none)
        else none
    | none => if o = 12 ∧ 1010 ≤ a ∧ a < 1014 then (if i = 9 then nx (pc + 3) ls (.inr (.inr (a + 10)) :: st) h g else if i = 15 then nx (pc + 3) ls (.inl 0 :: st) h g else none) else none
  | _ => none
def putF (ini : Bool) (o i pc : Nat) (ls : PL) (st : List PV) (h : PH) (g : PG) : Option SR := match fldT o i with
  | some (c, k, _) => match st with
    | .inl v :: .inr (.inr a) :: st => if isO a c g.1 = true ∧ fty c k = 0 ∧ (v = 0 ∨ v = 1 ∨ ¬ parseFieldDescriptor ((vwCl.getD c (RX0, TX0, 0)).2.1 k).2.2.1 = some .boolean) then nx (pc + 3) ls st (u2 h a k v) g else none
    | .inr (.inr v) :: .inr (.inr a) :: st => if isO a c g.1 = true ∧ 0 ≤ v then
        (if fty c k = 1 ∧ ini = true ∧ o = c then nx (pc + 3) ls st h (g.1, u2 g.2 a k v) else if fty c k = 2 then nx (pc + 3) ls st (u2 h a k v) g else none) else none
    | _ => none
  | none => none
def getS (o i pc : Nat) (ls : PL) (st : List PV) (h : PH) (g : PG) : Option SR :=
  if o = 1 ∧ i = 60 then nx (pc + 3) ls (.inr (.inr 1000) :: st) h g
  else if o = 6 ∧ i = 49 then nx (pc + 3) ls (.inr (.inr 1001) :: st) h g
  else if o = 12 ∧ i = 38 then nx (pc + 3) ls (.inl 1 :: st) h g else none
def wipe (h : Int → Int → Int) (a : Int) (f : Int → Int) : Int → Int → Int := fun b j => if b = a then f j else h b j
def newO (o i pc : Nat) (ls : PL) (st : List PV) (h : PH) (g : PG) : Option SR := match clsT o i with
  | some c => if c < 9 ∧ g.1 < nCell ∧ shL.getD g.1 (99, 0) = (c, (vwCl.getD c (RX0, TX0, 0)).2.2) then
      nx (pc + 3) ls (.inr (.inr g.1) :: st) (wipe h g.1 (fun j => if fty c j.toNat = 2 then -1 else 0)) (g.1 + 1, wipe g.2 g.1 (fun _ => -1)) else none
  | none => none
def newA (k len pc : Nat) (ls : PL) (st : List PV) (h : PH) (g : PG) : Option SR := match st with
  | .inl x :: st => if 0 ≤ x ∧ x ≤ 1000 ∧ g.1 < nCell ∧ shL.getD g.1 (99, 0) = (k, x.toNat) then
      nx (pc + len) ls (.inr (.inr g.1) :: st) (wipe h g.1 (fun _ => 0)) (g.1 + 1, wipe g.2 g.1 (fun _ => -1)) else none
  | _ => none
def aRow (c : Nat) : Nat := if c = 1 then 13 else if c = 4 then 14 else if c = 5 then 15 else 97
def newM (pc : Nat) (ls : PL) (st : List PV) (h : PH) (g : PG) : Option SR := match st with
  | .inl k :: .inl x :: st => if 0 ≤ x ∧ x ≤ 100 ∧ 0 ≤ k ∧ k ≤ 100 ∧ g.1 + x.toNat < nCell ∧ shL.getD g.1 (99, 0) = (16, x.toNat) ∧ (List.range x.toNat).all (fun j => shL.getD (g.1 + 1 + j) (99, 0) == (10, k.toNat)) = true then
      nx (pc + 4) ls (.inr (.inr g.1) :: st) (fun b j => if (g.1 : Int) ≤ b ∧ b ≤ g.1 + x then 0 else h b j) (g.1 + 1 + x.toNat, fun b j => if b = (g.1 : Int) then (if 0 ≤ j ∧ j < x then g.1 + 1 + j else -1) else if (g.1 : Int) < b ∧ b ≤ g.1 + x then -1 else g.2 b j) else none
  | _ => none
def slotsOf : List PV → PL
  | [] => []
  | v :: r => if pcat v = 2 then some v :: none :: slotsOf r else some v :: slotsOf r
def entryL (m : Nat) (av : List PV) : Option PL := if (slotsOf av).length ≤ mL m then some (slotsOf av ++ List.replicate (mL m - (slotsOf av).length) none) else none
def isRecv (a : Int) (m n : Nat) : Bool := (decide (mO m < 9) && isO a (mO m) n) || (decide (mO m = 12) && (decide (1010 ≤ a) && decide (a < 1014)))
/-- a call: the values that it takes lie on the stack, the last one on top -/
def doCall (ks : List Nat) (mm o i pc : Nat) (ls : PL) (st : List PV) (h : PH) (g : PG) : Option SR := match mthT o i with
  | some (m, _) => if m < nMeth ∧ mF m + 1 ≤ mF mm ∧ 8 + (mL m + 11) + mW m ≤ mW mm ∧ mK m ∈ ks ∧ mN m ≤ st.length ∧ pcats (st.drop (mN m)) ≤ 8 then match (st.take (mN m)).reverse with
      | .inr (.inr a) :: r => if mK m = 0 ∧ isRecv a m g.1 = false then none else some (.inr (.inl (m, .inr (.inr a) :: r, (pc + 3, ls, st.drop (mN m), h, g))))
      | av => if mK m = 1 then some (.inr (.inl (m, av, (pc + 3, ls, st.drop (mN m), h, g)))) else none
      else none
  | none => none
def cpyH (h : PH) (a i b j n : Int) : PH := fun c k => if c = b then (if j ≤ k ∧ k < j + n then h a (i + (k - j)) else h c k) else h c k
def doBlt (mm o i pc : Nat) (ls : PL) (st : List PV) (h : PH) (g : PG) : Option SR := if 3 ≤ mF mm ∧ 100 ≤ mW mm then (match bltT o i with
  | some 1 => match st with
    | .inr (.inr _) :: st => if pcats st ≤ 8 then nx (pc + 3) ls st h g else none
    | _ => none
  | some 2 => match st with
    | .inl n :: .inl j :: .inr (.inr b) :: .inl i :: .inr (.inr a) :: st => if isO a 10 g.1 = true ∧ isO b 10 g.1 = true ∧ 0 ≤ w32 i ∧ 0 ≤ w32 j ∧ 0 ≤ w32 n ∧ w32 i + w32 n ≤ alen a ∧ w32 j + w32 n ≤ alen b ∧ pcats st ≤ 8 then nx (pc + 3) ls st (cpyH h a (w32 i) b (w32 j) (w32 n)) g else none
    | _ => none
  | some 4 => match st with
    | .inl y :: .inl x :: st => if pcats st ≤ 8 then nx (pc + 3) ls (.inl (if w32 x < w32 y then y else x) :: st) h g else none
    | _ => none
  | some 3 => match st with
    | .inl n :: .inl i :: st => if 0 ≤ w32 i ∧ w32 i < w32 n ∧ pcats st ≤ 8 then nx (pc + 3) ls st h g else none
    | _ => none
  | _ => none) else none
def retI (m : Nat) (st : List PV) (h : PH) (g : PG) : Option SR := match st with
  | [.inl x] => match mR m with
    | some .int => some (.inr (.inr (some (.inl x), h, g)))
    | some .boolean => if x = 0 ∨ x = 1 then some (.inr (.inr (some (.inl x), h, g))) else none
    | some .char => if 0 ≤ x ∧ x ≤ 65535 then some (.inr (.inr (some (.inl x), h, g))) else none
    | some .byte => if -128 ≤ x ∧ x ≤ 127 then some (.inr (.inr (some (.inl x), h, g))) else none
    | _ => none
  | _ => none
def retL (m : Nat) (st : List PV) (h : PH) (g : PG) : Option SR := match st with
  | [.inr (.inl x)] => if mR m = some .long then some (.inr (.inr (some (.inr (.inl x)), h, g))) else none
  | _ => none
def retV (m : Nat) (st : List PV) (h : PH) (g : PG) : Option SR := match st with
  | [] => if mR m = none then some (.inr (.inr (none, h, g))) else none
  | _ => none
def tsw (d lo hi : Int) (os : Array Int) (pc : Nat) (ls : PL) (st : List PV) (h : PH) (g : PG) : Option SR := match st with
  | .inl x :: st => if w32 x < lo ∨ hi < w32 x then jmp pc d ls st h g else match os[(w32 x - lo).toNat]? with
    | some off => jmp pc off ls st h g
    | none => none
  | _ => none
def lsw (d : Int) (ps : Array (Int × Int)) (pc : Nat) (ls : PL) (st : List PV) (h : PH) (g : PG) : Option SR := match st with
  | .inl x :: st => if (ps.toList.zip (ps.toList.drop 1)).all (fun q => decide (q.1.1 < q.2.1)) = true then jmp pc (Op.lookupswitch.offset ps.toList d (w32 x)) ls st h g else none
  | _ => none
def iinc (i : Nat) (c : Int) (pc : Nat) (ls : PL) (st : List PV) (h : PH) (g : PG) : Option SR := match lget ls i with
  | some (.inl x) => st1 i 3 pc (.inl (x + c)) ls st h g
  | _ => none
def dup2 (pc : Nat) (ls : PL) (st : List PV) (h : PH) (g : PG) : Option SR := match st with
  | v :: w :: st => if pcat v = 1 ∧ pcat w = 1 then nx (pc + 1) ls (v :: w :: v :: w :: st) h g else none
  | _ => none
def dup1 (pc : Nat) (ls : PL) (st : List PV) (h : PH) (g : PG) : Option SR := match st with
  | v :: st => if pcat v = 1 then nx (pc + 1) ls (v :: v :: st) h g else none
  | _ => none
def pop1 (pc : Nat) (ls : PL) (st : List PV) (h : PH) (g : PG) : Option SR := match st with
  | v :: st => if pcat v = 1 then nx (pc + 1) ls st h g else none
  | _ => none
def pop22 (pc : Nat) (ls : PL) (st : List PV) (h : PH) (g : PG) : Option SR := match st with
  | v :: st => if pcat v = 2 then nx (pc + 1) ls st h g else none
  | _ => none
def dupx (pc : Nat) (ls : PL) (st : List PV) (h : PH) (g : PG) : Option SR := match st with
  | v :: w :: st => if pcat v = 1 ∧ pcat w = 1 then nx (pc + 1) ls (v :: w :: v :: st) h g else none
  | _ => none
def i2lI (pc : Nat) (ls : PL) (st : List PV) (h : PH) (g : PG) : Option SR := match st with
  | .inl x :: st => nx (pc + 1) ls (.inr (.inl (w32 x)) :: st) h g
  | _ => none
def l2iI (pc : Nat) (ls : PL) (st : List PV) (h : PH) (g : PG) : Option SR := match st with
  | .inr (.inl x) :: st => nx (pc + 1) ls (.inl x :: st) h g
  | _ => none
def negL (pc : Nat) (ls : PL) (st : List PV) (h : PH) (g : PG) : Option SR := match st with
  | .inr (.inl x) :: st => nx (pc + 1) ls (.inr (.inl (-x)) :: st) h g
  | _ => none
def lcmpI (pc : Nat) (ls : PL) (st : List PV) (h : PH) (g : PG) : Option SR := match st with
  | .inr (.inl y) :: .inr (.inl x) :: st => nx (pc + 1) ls (.inl (cmpL x y) :: st) h g
  | _ => none
/-- one instruction, of length len, of method m -/
def xi (z : Int → Int) (m : Nat) (i : Instr) (len pc : Nat) (ls : PL) (st : List PV) (h : PH) (g : PG) : Option SR :=
  match i with
  | .iconst c => if len = 1 then nx (pc + 1) ls (.inl c :: st) h g else none
  | .bipush c => if len = 2 ∧ -128 ≤ c ∧ c ≤ 127 then nx (pc + 2) ls (.inl c :: st) h g else none
  | .sipush c => if len = 3 ∧ -32768 ≤ c ∧ c ≤ 32767 then nx (pc + 3) ls (.inl c :: st) h g else none
  | .lconst c => if len = 1 then nx (pc + 1) ls (.inr (.inl ((c : Nat) : Int)) :: st) h g else none
  | .iload_n k => if len = 1 then ldv k 1 pc 0 ls st h g else none
  | .iload k => if len = 2 then ldv k 2 pc 0 ls st h g else none
  | .lload_n k => if len = 1 then ldv k 1 pc 1 ls st h g else none
  | .lload k => if len = 2 then ldv k 2 pc 1 ls st h g else none
  | .aload_n k => if len = 1 then ldv k 1 pc 2 ls st h g else none
  | .aload k => if len = 2 then ldv k 2 pc 2 ls st h g else none
  | .istore_n k => if len = 1 then stv k 1 pc 0 ls st h g else none
  | .istore k => if len = 2 then stv k 2 pc 0 ls st h g else none
  | .lstore_n k => if len = 1 then stv k 1 pc 1 ls st h g else none
  | .lstore k => if len = 2 then stv k 2 pc 1 ls st h g else none
  | .astore_n k => if len = 1 then stv k 1 pc 2 ls st h g else none
  | .astore k => if len = 2 then stv k 2 pc 2 ls st h g else none
  | .iinc k c => if len = 3 then iinc k c pc ls st h g else none
  | .iadd => if len = 1 then bI (· + ·) pc ls st h g else none
  | .isub => if len = 1 then bI (· - ·) pc ls st h g else none
  | .imul => if len = 1 then bI (· * ·) pc ls st h g else none
  | .iand => if len = 1 then bI andI pc ls st h g else none
  | .ior => if len = 1 then bI orI pc ls st h g else none
  | .ixor => if len = 1 then bI xorI pc ls st h g else none
  | .ishl => if len = 1 then bI shlI pc ls st h g else none
  | .ishr => if len = 1 then bI shrI pc ls st h g else none
  | .iushr => if len = 1 then bI ushrI pc ls st h g else none
  | .idiv => if len = 1 then qI divI pc ls st h g else none
  | .irem => if len = 1 then qI remI pc ls st h g else none
  | .ineg => if len = 1 then uI (- ·) pc ls st h g else none
  | .i2b => if len = 1 then uI i2bI pc ls st h g else none
  | .i2c => if len = 1 then uI i2cI pc ls st h g else none
  | .i2l => if len = 1 then i2lI pc ls st h g else none
  | .l2i => if len = 1 then l2iI pc ls st h g else none
  | .ladd => if len = 1 then bL (· + ·) pc ls st h g else none
  | .lsub => if len = 1 then bL (· - ·) pc ls st h g else none
  | .lmul => if len = 1 then bL (· * ·) pc ls st h g else none
  | .ldiv => if len = 1 then qL divL pc ls st h g else none
  | .lrem => if len = 1 then qL remL pc ls st h g else none
  | .lneg => if len = 1 then negL pc ls st h g else none
  | .lcmp => if len = 1 then lcmpI pc ls st h g else none
  | .dup => if len = 1 then dup1 pc ls st h g else none
  | .dup2 => if len = 1 then dup2 pc ls st h g else none
  | .pop => if len = 1 then pop1 pc ls st h g else none
  | .pop2 => if len = 1 then pop22 pc ls st h g else none
  | .dup_x1 => if len = 1 then dupx pc ls st h g else none
  | .goto off => if len = 3 then jmp pc off ls st h g else none
  | .ifCond c off => if len = 3 then (match st with
    | .inl x :: st => jc c x 0 pc off ls st h g
    | _ => none) else none
  | .if_icmp c off => if len = 3 then (match st with
    | .inl y :: .inl x :: st => jc c x y pc off ls st h g
    | _ => none) else none
  | .tableswitch d lo hi os => tsw d lo hi os pc ls st h g
  | .lookupswitch d ps => lsw d ps pc ls st h g
  | .iaload => if len = 1 then aldI z 10 pc ls st h g else none
  | .baload => if len = 1 then aldI z 17 pc ls st h g else none
  | .caload => if len = 1 then aldI z 12 pc ls st h g else none
  | .laload => if len = 1 then aldL pc ls st h g else none
  | .aaload => if len = 1 then aldR pc ls st h g else none
  | .iastore => if len = 1 then astI 10 (fun _ => true) pc ls st h g else none
  | .castore => if len = 1 then astI 12 (fun v => decide (0 ≤ v ∧ v ≤ 65535)) pc ls st h g else none
  | .lastore => if len = 1 then astL pc ls st h g else none
  | .aastore => if len = 1 then astR pc ls st h g else none
  | .arraylength => if len = 1 then alenI z pc ls st h g else none
  | .getfield k => if len = 3 then getF (mO m) k pc ls st h g else none
  | .putfield k => if len = 3 then putF (decide (mK m = 2)) (mO m) k pc ls st h g else none
  | .getstatic k => if len = 3 then getS (mO m) k pc ls st h g else none
  | .ldc k => if len = 2 then (match cstT (mO m) k with
    | some v => nx (pc + 2) ls (.inl v :: st) h g
    | none => match strT (mO m) k with
      | some q => nx (pc + 2) ls (.inr (.inr (1010 + (q : Int))) :: st) h g
      | none => none) else none
  | .ldc_w k => if len = 3 then (match cstT (mO m) k with
    | some v => nx (pc + 3) ls (.inl v :: st) h g
    | none => none) else none
  | .ldc2_w k => if len = 3 then (match clgT (mO m) k with
    | some v => nx (pc + 3) ls (.inr (.inl v) :: st) h g
    | none => none) else none
  | .new k => if len = 3 then newO (mO m) k pc ls st h g else none
  | .newarray t => if len = 2 then (match t with
    | .int => newA 10 2 pc ls st h g
    | .long => newA 11 2 pc ls st h g
    | .char => newA 12 2 pc ls st h g
    | _ => none) else none
  | .anewarray k => if len = 3 then (match clsT (mO m) k with
    | some c => newA (aRow c) 3 pc ls st h g
    | none => none) else none
  | .multianewarray k d => if len = 4 ∧ d = 2 ∧ clsT (mO m) k = some 16 then newM pc ls st h g else none
  | .invokevirtual k => if len = 3 then doCall [0] m (mO m) k pc ls st h g else none
  | .invokestatic k => if len = 3 then (if bltT (mO m) k = none then doCall [1] m (mO m) k pc ls st h g else if bltT (mO m) k = some 1 then none else doBlt m (mO m) k pc ls st h g) else none
  | .invokespecial k => if len = 3 then (if bltT (mO m) k = none then doCall [2] m (mO m) k pc ls st h g else if bltT (mO m) k = some 1 then doBlt m (mO m) k pc ls st h g else none) else none
  | .ireturn => if len = 1 then retI m st h g else none
  | .lreturn => if len = 1 then retL m st h g else none
  | .return_ => if len = 1 then retV m st h g else none
  | _ => none
def xs (z : Int → Int) (m : Nat) (c : Cfg) : Option SR := match decode (mC m) c.1 with
  | .ok (i, len) => xi z m i len c.1 c.2.1 c.2.2.1 c.2.2.2.1 c.2.2.2.2
  | .error _ => none
def ex (z : Int → Int) : Nat → Nat → Cfg → Option Out
  | 0, _, _ => none
  | f + 1, m, c => match xs z m c with
    | none => none
    | some (.inl c') => ex z f m c'
    | some (.inr (.inl (m', av, c'))) => match entryL m' av with
      | none => none
      | some l0 => match ex z f m' (0, l0, [], c'.2.2.2.1, c'.2.2.2.2) with
        | none => none
        | some (v, h', g') => ex z f m (c'.1, c'.2.1, v.toList ++ c'.2.2.1, h', g')
    | some (.inr (.inr o)) => some o
theorem ex_mono1 (z : Int → Int) : ∀ (f m : Nat) (c : Cfg) (o : Out), ex z f m c = some o → ex z (f + 1) m c = some o := by
  intro f
  induction f with
  | zero => intro m c o h; simp [ex] at h
  | succ f ih =>
    intro m c o h
    rw [ex] at h ⊢
    cases he : xs z m c with
    | none => rw [he] at h; cases h
    | some r =>
      rw [he] at h
      rcases r with c' | ⟨m', av, c'⟩ | o'
      · exact ih _ _ _ h
      · simp only at h ⊢
        cases hl : entryL m' av with
        | none => rw [hl] at h; cases h
        | some l0 =>
          rw [hl] at h
          simp only at h ⊢
          cases hc : ex z f m' (0, l0, [], c'.2.2.2.1, c'.2.2.2.2) with
          | none => rw [hc] at h; cases h
          | some q =>
            rw [hc] at h
            rw [ih _ _ _ hc]
            exact ih _ _ _ h
      · exact h
theorem ex_mono (z : Int → Int) {f f' m : Nat} {c : Cfg} {o : Out} (hf : f ≤ f') (h : ex z f m c = some o) : ex z f' m c = some o := by
  induction hf with
  | refl => exact h
  | step _ ih => exact ex_mono1 z _ _ _ _ ih
theorem ex_det (z : Int → Int) {f f' m : Nat} {c : Cfg} {o o' : Out} (h : ex z f m c = some o) (h' : ex z f' m c = some o') : o = o' := by
  have a := ex_mono z (Nat.le_max_left f f') h
  have b := ex_mono z (Nat.le_max_right f f') h'
  exact Option.some.inj (a.symm.trans b)
/-- what a method's run comes to from a place on, if it comes to an end -/
noncomputable def XC (z : Int → Int) (m : Nat) (c : Cfg) : Option Out := @dite _ (∃ (f : Nat) (o : Out), ex z f m c = some o) (Classical.propDecidable _) (fun hx => some (Classical.choose (Classical.choose_spec hx))) (fun _ => none)
theorem XC_of (z : Int → Int) {f m : Nat} {c : Cfg} {o : Out} (h : ex z f m c = some o) : XC z m c = some o := by
  have hx : ∃ (f : Nat) (o : Out), ex z f m c = some o := ⟨f, o, h⟩
  unfold XC
  rw [dif_pos hx]
  exact congrArg some (ex_det z (Classical.choose_spec (Classical.choose_spec hx)) h)
theorem XC_some (z : Int → Int) {m : Nat} {c : Cfg} {o : Out} (h : XC z m c = some o) : ∃ f, ex z f m c = some o := by
  unfold XC at h
  split at h
  · rename_i hx
    rw [← Option.some.inj h]
    exact ⟨_, Classical.choose_spec (Classical.choose_spec hx)⟩
  · cases h
theorem XC_eq (z : Int → Int) {m m' : Nat} {c c' : Cfg} (h : ∀ o, (∃ f, ex z f m c = some o) ↔ ∃ f, ex z f m' c' = some o) : XC z m c = XC z m' c' := by
  cases h1 : XC z m c with
  | some o =>
    obtain ⟨f, hf⟩ := (h o).mp (XC_some z h1)
    exact (XC_of z hf).symm
  | none =>
    cases h2 : XC z m' c' with
    | none => rfl
    | some o =>
      obtain ⟨f, hf⟩ := (h o).mpr (XC_some z h2)
      rw [XC_of z hf] at h1
      cases h1
theorem XC_next (z : Int → Int) {m : Nat} {c c' : Cfg} (h : xs z m c = some (.inl c')) : XC z m c = XC z m c' := by
  refine XC_eq z fun o => ⟨fun ⟨f, hf⟩ => ?_, fun ⟨f, hf⟩ => ⟨f + 1, ?_⟩⟩
  · cases f with
    | zero => simp [ex] at hf
    | succ f => rw [ex, h] at hf; exact ⟨f, hf⟩
  · rw [ex, h]; exact hf
theorem XC_ret (z : Int → Int) {m : Nat} {c : Cfg} {o : Out} (h : xs z m c = some (.inr (.inr o))) : XC z m c = some o := XC_of z (f := 1) (by rw [ex, h])
theorem XC_call (z : Int → Int) {m m' : Nat} {c c' : Cfg} {av : List PV} {l0 : PL} {v : Option PV} {h' : PH} {g' : PG} (h : xs z m c = some (.inr (.inl (m', av, c')))) (hl : entryL m' av = some l0) (hc : XC z m' (0, l0, [], c'.2.2.2.1, c'.2.2.2.2) = some (v, h', g')) :
    XC z m c = XC z m (c'.1, c'.2.1, v.toList ++ c'.2.2.1, h', g') := by
  obtain ⟨f0, hf0⟩ := XC_some z hc
  refine XC_eq z fun o => ⟨fun ⟨f, hf⟩ => ?_, fun ⟨f, hf⟩ => ⟨max f f0 + 1, ?_⟩⟩
  · cases f with
    | zero => simp [ex] at hf
    | succ f =>
      rw [ex, h] at hf
      simp only [hl] at hf
      cases hq : ex z f m' (0, l0, [], c'.2.2.2.1, c'.2.2.2.2) with
      | none => rw [hq] at hf; cases hf
      | some q =>
        rw [hq] at hf
        cases ex_det z hq hf0
        exact ⟨f, hf⟩
  · rw [ex, h]
    simp only [hl, ex_mono z (Nat.le_max_right f f0) hf0]
    exact ex_mono z (Nat.le_max_left f f0) hf
/-- a method's answer: what it returns, and the cells behind it -/
noncomputable def CALL (z : Int → Int) (m : Nat) (av : List PV) (h : PH) (g : PG) : Option Out := match entryL m av with
  | some l0 => XC z m (0, l0, [], h, g)
  | none => none
end
section
/-! ===== THE PLAIN MACHINE IS THE MACHINE: what a frame of the machine holds where the plain one stands; the instructions that touch no cell ===== -/
theorem e_nl (x y : Int) : Int32.ofInt x = Int32.ofInt y ↔ w32 x = w32 y := ⟨fun h => congrArg Int32.toInt h, fun h => Int32.toInt_inj.mp h⟩
theorem e_lt (x y : Int) : Int32.ofInt x < Int32.ofInt y ↔ w32 x < w32 y := Int32.lt_iff_toInt_lt
theorem e_le (x y : Int) : Int32.ofInt x ≤ Int32.ofInt y ↔ ¬ w32 y < w32 x := Int32.le_iff_toInt_le.trans Int.not_lt.symm
theorem e_nl64 (x y : Int) : Int64.ofInt x = Int64.ofInt y ↔ w64 x = w64 y := ⟨fun h => congrArg Int64.toInt h, fun h => Int64.toInt_inj.mp h⟩
theorem e_lt64 (x y : Int) : Int64.ofInt x < Int64.ofInt y ↔ w64 x < w64 y := Int64.lt_iff_toInt_lt
theorem w32_0 : w32 0 = 0 := by decide
theorem e_clamp (x : Int) : (Int32.ofInt x).toNatClampNeg = (w32 x).toNat := rfl
theorem e_in {x : Int} {n : Nat} (h0 : 0 ≤ w32 x) (h1 : w32 x < n) : vp_in (Int32.ofInt x) n := vp_in_iff.mpr ⟨h0, h1⟩
theorem e_nneg {x : Int} (h : 0 ≤ w32 x) : ¬ Int32.ofInt x < 0 := fun q => by
  have h2 : (Int32.ofInt x).toInt < (0 : Int32).toInt := Int32.lt_iff_toInt_lt.mp q
  have h3 : (0 : Int32).toInt = 0 := rfl
  have h4 : (Int32.ofInt x).toInt = w32 x := rfl
  omega
theorem e_small {x : Int} (h0 : -2147483648 ≤ x) (h1 : x < 2147483648) : w32 x = x := Int32.toInt_ofInt_of_le (by omega) (by omega)
def mv (ad : Int → Nat) (v : PV) : Value := match v with
  | .inl x => .int (Int32.ofInt x)
  | .inr (.inl x) => .long (Int64.ofInt x)
  | .inr (.inr a) => .ref (ad a)
theorem mv_cat (ad : Int → Nat) (v : PV) : (mv ad v).category = pcat v := by rcases v with x | x | x <;> rfl
theorem mv_cats (ad : Int → Nat) (st : List PV) : ((st.map (mv ad)).map fun v => v.category).sum = pcats st := by
  unfold pcats
  rw [List.map_map]
  congr 2
  funext v
  exact mv_cat ad v
/-- the machine's locals hold the plain ones -/
def LR (ad : Int → Nat) (nL : Nat) (ls : Array Slot) (l : PL) : Prop := ls.size = nL ∧ l.length = nL ∧ lv_wf ls ∧ ∀ (i : Nat) (v : PV), l[i]? = some (some v) → ls[i]? = some (.val (mv ad v))
theorem LR.get {ad : Int → Nat} {nL : Nat} {ls : Array Slot} {l : PL} (h : LR ad nL ls l) {i : Nat} {v : PV} (hv : lget l i = some v) : ls[i]? = some (.val (mv ad v)) := by
  refine h.2.2.2 i v ?_
  unfold lget at hv
  cases hl : l[i]? with
  | none => rw [hl] at hv; cases hv
  | some o => rw [hl] at hv; exact congrArg some hv
/-- all that is known, as the kit lists it -/
def toL (ad : Int → Nat) (l : PL) : List (Nat × Value) := (List.range l.length).filterMap (fun i => (lget l i).map (fun v => (i, mv ad v)))
theorem toL_mem {ad : Int → Nat} {l : PL} {q : Nat × Value} (h : q ∈ toL ad l) : ∃ v, lget l q.1 = some v ∧ q.2 = mv ad v := by
  obtain ⟨i, -, hi⟩ := List.mem_filterMap.mp h
  cases hv : lget l i with
  | none => rw [hv] at hi; cases hi
  | some v => rw [hv] at hi; cases hi; exact ⟨v, hv, rfl⟩
theorem toL_in {ad : Int → Nat} {l : PL} {i : Nat} {v : PV} (h : l[i]? = some (some v)) : (i, mv ad v) ∈ toL ad l := by
  refine List.mem_filterMap.mpr ⟨i, List.mem_range.mpr (List.getElem?_eq_some_iff.mp h).1, ?_⟩
  unfold lget
  rw [h]
  rfl
theorem LR.has {ad : Int → Nat} {nL : Nat} {ls : Array Slot} {l : PL} (h : LR ad nL ls l) : lv_has ls nL (toL ad l) := ⟨h.1, h.2.2.1, fun q hq => by
  obtain ⟨v, h1, h2⟩ := toL_mem hq
  rw [h2]
  exact h.get h1⟩
theorem lfree_use {l : PL} {i j : Nat} {v : PV} (h : lfree l i = true) (hj : j + 1 = i) (hv : l[j]? = some (some v)) : pcat v = 1 := by
  subst hj
  have e : lget l j = some v := by
    unfold lget
    rw [hv]
    rfl
  simp only [lfree] at h
  rw [e] at h
  simpa using h
theorem LR.put1 {ad : Int → Nat} {nL : Nat} {ls ls' : Array Slot} {l : PL} {i : Nat} {v : PV} (h : LR ad nL ls l) (hi : i < l.length) (hf : lfree l i = true)
    (h' : lv_has ls' nL ((i, mv ad v) :: (toL ad l).filter (fun q => !(q.1 == i) && !(q.1 + 1 == i && q.2.category == 2)))) : LR ad nL ls' (l.set i (some v)) := by
  refine ⟨h'.1, by rw [List.length_set]; exact h.2.1, h'.2.1, fun j w hj => ?_⟩
  by_cases e : i = j
  · subst e
    rw [List.getElem?_set_self hi] at hj
    cases hj
    exact h'.2.2 (i, mv ad v) List.mem_cons_self
  · rw [List.getElem?_set_ne e] at hj
    refine h'.2.2 (j, mv ad w) (List.mem_cons_of_mem _ (List.mem_filter.mpr ⟨toL_in hj, ?_⟩))
    have n1 : (j == i) = false := by simpa using fun q => e q.symm
    show (!(j == i) && !(j + 1 == i && (mv ad w).category == 2)) = true
    rw [n1, mv_cat]
    by_cases e2 : j + 1 = i
    · rw [lfree_use hf e2 hj]
      simp
    · simp [e2]
theorem LR.put2 {ad : Int → Nat} {nL : Nat} {ls ls' : Array Slot} {l : PL} {i : Nat} {v : PV} (h : LR ad nL ls l) (hi : i + 1 < l.length) (hf : lfree l i = true)
    (h' : lv_has ls' nL ((i, mv ad v) :: (toL ad l).filter (fun q => !(q.1 == i) && (!(q.1 == i + 1) && !(q.1 + 1 == i && q.2.category == 2))))) : LR ad nL ls' ((l.set i (some v)).set (i + 1) none) := by
  refine ⟨h'.1, by rw [List.length_set, List.length_set]; exact h.2.1, h'.2.1, fun j w hj => ?_⟩
  by_cases e0 : i + 1 = j
  · subst e0
    rw [List.getElem?_set_self (by rw [List.length_set]; exact hi)] at hj
    cases hj
  · rw [List.getElem?_set_ne e0] at hj
    by_cases e : i = j
    · subst e
      rw [List.getElem?_set_self (by omega)] at hj
      cases hj
      exact h'.2.2 (i, mv ad v) List.mem_cons_self
    · rw [List.getElem?_set_ne e] at hj
      refine h'.2.2 (j, mv ad w) (List.mem_cons_of_mem _ (List.mem_filter.mpr ⟨toL_in hj, ?_⟩))
      have n1 : (j == i) = false := by simpa using fun q => e q.symm
      have n2 : (j == i + 1) = false := by simpa using fun q => e0 q.symm
      show (!(j == i) && (!(j == i + 1) && !(j + 1 == i && (mv ad w).category == 2))) = true
      rw [n1, n2, mv_cat]
      by_cases e2 : j + 1 = i
      · rw [lfree_use hf e2 hj]
        simp
      · simp [e2]
/-! the cells -/
def tysOf (cA : Nat → ClassId) : List (ClassId × FieldType) := [(cA 0, .int), (cA 1, .long), (cA 2, .char), (cA 3, .object RX1), (cA 4, .object RX4), (cA 5, .object RX5), (cA 6, .array .int)]
def rnv (ad : Int → Nat) (x : Int) : Option Nat := if x < 0 then none else some (ad x)
def slotV (ad : Int → Nat) (h : PH) (r : Int → Int → Int) (c k : Nat) (a : Int) : Value := if fty c k = 0 then .int (Int32.ofInt (h a k)) else if fty c k = 1 then va_rf (rnv ad (r a k)) else va_rf (rnv ad (h a k))
def cellE (ad : Int → Nat) (cA : Nat → ClassId) (h : PH) (r : Int → Int → Int) (a : Nat) : va_E :=
  if (shL.getD a (99, 0)).1 < 9 then .inr ((shL.getD a (99, 0)).1, (List.range (shL.getD a (99, 0)).2).map (fun k => slotV ad h r (shL.getD a (99, 0)).1 k a))
  else if (shL.getD a (99, 0)).1 = 10 then .inl (cA 0, (shL.getD a (99, 0)).2, .inl (fun j => Int32.ofInt (h a j)))
  else if (shL.getD a (99, 0)).1 = 11 then .inl (cA 1, (shL.getD a (99, 0)).2, .inr (.inl (fun j => Int64.ofInt (h a j))))
  else if (shL.getD a (99, 0)).1 = 12 then .inl (cA 2, (shL.getD a (99, 0)).2, .inl (fun j => Int32.ofInt (h a j)))
  else .inl (cA ((shL.getD a (99, 0)).1 - 10), (shL.getD a (99, 0)).2, .inr (.inr (.inr (.inr (fun j => rnv ad (r a j))))))
def WS (ad : Int → Nat) (cA : Nat → ClassId) (h : PH) (g : PG) : va_W := (List.range g.1).map (fun (a : Nat) => (ad a, cellE ad cA h g.2 a))
theorem WS_get {ad : Int → Nat} {cA : Nat → ClassId} {h : PH} {g : PG} {a : Nat} (ha : a < g.1) : (WS ad cA h g)[a]? = some (ad a, cellE ad cA h g.2 a) := by
  unfold WS
  rw [List.getElem?_map, List.getElem?_range ha]
  rfl
/-- the addresses lie one behind the other, those that nobody writes ahead of them -/
def AdOK (base : Nat) (ad : Int → Nat) : Prop := ∀ a : Int, 0 ≤ a → a < 1000 → ad a = base + a.toNat
def ZA (base : Nat) : Nat → Prop := fun q => base ≤ q
theorem nCell_le : nCell ≤ 999 := by decide
theorem WS_D {base : Nat} {ad : Int → Nat} (had : AdOK base ad) {cA : Nat → ClassId} {h : PH} {g : PG} (hg : g.1 ≤ nCell) : va_D (ZA base) (WS ad cA h g) := by
  have hn := nCell_le
  have key : ∀ (k : Nat) (q : Nat × va_E), (WS ad cA h g)[k]? = some q → k < g.1 ∧ q.1 = base + k := by
    intro k q hk
    have hl : k < g.1 := by
      have := (List.getElem?_eq_some_iff.mp hk).1
      simpa [WS] using this
    rw [WS_get hl] at hk
    cases hk
    exact ⟨hl, by rw [had k (by omega) (by omega)]; simp⟩
  refine ⟨fun i j p q hi hj e => ?_, fun k q hk => ?_⟩
  · have a := key i p hi
    have b := key j q hj
    omega
  · have a := key k q hk
    unfold ZA
    omega
def sl (n : Nat) : Nat := ((shL.take n).map (fun q => q.2)).sum
/-- the machine's heap holds the plain cells -/
def HI (base : Nat) (ad : Int → Nat) (cA : Nat → ClassId) (D : va_G) (H : Heap) (h : PH) (g : PG) : Prop := H.size = base + g.1 ∧ g.1 ≤ nCell ∧ va_P D vwCl (WS ad cA h g) H
end
section
/-! ===== what is known of the tables and of the cells that nobody writes, at a state ===== -/
def va_AOt (ty : FieldType) (U : State) : Prop := (Cond.arrayOver ty).before #[] U = true
theorem va_AOt_spec {U : State} (h : va_AOt (.array .int) U) : ∃ comp c k, U.vm.findClass (FieldType.array .int).toString = some comp ∧ (U.vm.classes.findIdx? fun x => match x.kind with | .array component _ => component == comp | _ => false) = some c ∧ U.vm.classes[c]? = some k ∧ k.kind = .array comp (.array .int) ∧ U.vm.findClass ("[" ++ (FieldType.array .int).toString) = some c := by
  unfold va_AOt Cond.before at h
  simp only [Cond.holds, Cond.value, beq_iff_eq] at h
  cases hc : U.vm.findClass (FieldType.array .int).toString with
  | none => simp [hc] at h
  | some comp =>
    simp only [hc, Option.bind_some, Option.bind_eq_some_iff, Option.map_eq_some_iff] at h
    obtain ⟨c, hi, k, hk, hb⟩ := h
    obtain ⟨hlt, hp, -⟩ := Array.findIdx?_eq_some_iff_getElem.mp hi
    have hkk : U.vm.classes[c] = k := (Array.getElem?_eq_some_iff.mp hk).2
    rw [hkk] at hp
    cases hkind : k.kind with
    | array component ty =>
      rw [hkind] at hb hp
      simp at hb hp
      exact ⟨comp, c, k, rfl, hi, hk, by rw [hkind, hp, hb.1], hb.2⟩
    | _ => rw [hkind] at hb; simp at hb
theorem va_AOt.moved {u U : State} (hvm : u.vm.Alike U.vm) (h : va_AOt (.array .int) u) : va_AOt (.array .int) U := by
  obtain ⟨comp, c, k, h1, h2, h3, h4, h5⟩ := va_AOt_spec h
  obtain ⟨k', hk', he⟩ := hvm.2.2 _ _ h3
  have hi : (U.vm.classes.findIdx? fun (x : Class) => match x.kind with | .array component _ => component == comp | _ => false) = some c := by
    have e1 := va_idx_bare U.vm comp
    have e2 := va_idx_bare u.vm comp
    have e3 : u.vm.bare = U.vm.bare := by first | exact hvm.bare_eq | exact hvm.bare_eq.symm
    rw [← e3] at e1
    exact e1.symm.trans (e2.trans h2)
  have hkind : k'.kind = .array comp (.array .int) := by rw [he]; exact h4
  have f1 : U.vm.findClass (FieldType.array .int).toString = some comp := by rw [hvm.findClass]; exact h1
  have f2 : U.vm.findClass ("[" ++ (FieldType.array .int).toString) = some c := by rw [hvm.findClass]; exact h5
  unfold va_AOt Cond.before Cond.holds
  simp only [Cond.value]
  rw [f1, Option.bind_some]
  refine (congrArg (fun o : Option Nat => (o.bind (fun c => (U.vm.classes[c]?).map fun (k : Class) => match k.kind with | .array _ ty => decide (ty = FieldType.array .int) && decide (U.vm.findClass ("[" ++ (FieldType.array .int).toString) = some c) | _ => false) == some true)) hi).trans ?_
  simp [hk', hkind, f2]
/-- of the tables: classes, links between nest mates, rows of objects -/
def NFa (cA : Nat → ClassId) (D : va_G) (U : State) : Prop :=
  va_K D vwCl (tysOf cA) U ∧ (∀ e ∈ fldL, e.2.2.2.2.1 = 1 → va_Nw (isNestF e) U) ∧ (∀ e ∈ mthL, e.2.2.2.1 = 1 → va_Nw (isNestM e) U) ∧
  va_Nw (.fieldLinkNest RX1 60 RX7 "KIND_ABOVE" "[I" RX7) U ∧ va_Nw (.fieldLinkNest RX6 49 RX7 "NUMBERS_BEHIND" "[I" RX7) U ∧
  va_AO RX1 U ∧ va_AO RX4 U ∧ va_AO RX5 U ∧ va_AOt (.array .int) U
/-- of the heap: what nobody writes -/
def ROF (ad : Int → Nat) (z : Int → Int) (A : Nat → Prop) (U : State) (H : Heap) : Prop :=
  va_Z RX7 "KIND_ABOVE" "[I" (.ref (ad 1000)) A U H ∧ va_Z RX7 "NUMBERS_BEHIND" "[I" (.ref (ad 1001)) A U H ∧ va_Z "java/lang/String" "COMPACT_STRINGS" "Z" (.int 1) A U H ∧
  va_Zq "jdk/internal/util/Preconditions" "SIOOBE_FORMATTER" "Ljava/util/function/BiFunction;" A U H ∧
  (∀ a : Int, roK a = 10 → va_T .int (ad a) (roN z a).toNat (fun j => .int (Int32.ofInt (roV z a j))) A U H) ∧
  (∀ a : Int, roK a = 17 → va_T .byte (ad a) (roN z a).toNat (fun j => .int (Int32.ofInt (roV z a j))) A U H) ∧
  (∀ i : Nat, i < 4 → va_O RJ0 (ad (1010 + (i : Int))) A U H ∧ va_OF RJ0 "coder" "B" (.int 0) (ad (1010 + (i : Int))) A U H ∧ va_OF RJ0 "value" "[B" (.ref (ad (1020 + (i : Int)))) (ad (1010 + (i : Int))) A U H)
/-- of the text constants -/
def STF (ad : Int → Nat) (U : State) : Prop := ∀ (i : Nat) (e : Nat × Nat × String × Nat), strL[i]? = some e → vk_R (oN e.1) e.2.1 e.2.2.1 (ad (1010 + (i : Int))) U
def KB (base : Nat) (ad : Int → Nat) (z : Int → Int) (cA : Nat → ClassId) (D : va_G) (U : State) (H : Heap) : Prop := NFa cA D U ∧ ROF ad z (ZA base) U H ∧ STF ad U
theorem NFa.warm {cA : Nat → ClassId} {D : va_G} {s U : State} (hW : s.WarmedH U.vm) (h : NFa cA D s) : NFa cA D U := by
  obtain ⟨h1, h2, h3, h4, h5, h6, h7, h8, h9⟩ := h
  exact ⟨h1.moved hW.alike, fun e he hn => va_Nw.warmF hW (h2 e he hn), fun e he hn => va_Nw.warmM hW (h3 e he hn), va_Nw.warmF hW h4, va_Nw.warmF hW h5, h6.moved hW.alike, h7.moved hW.alike, h8.moved hW.alike, h9.moved hW.alike⟩
theorem NFa.same {cA : Nat → ClassId} {D : va_G} {s U : State} (hv : s.vm = U.vm) (h : NFa cA D s) : NFa cA D U := by
  have ha : s.vm.Alike U.vm := by rw [hv]; exact Vm.Alike.refl _
  obtain ⟨h1, h2, h3, h4, h5, h6, h7, h8, h9⟩ := h
  exact ⟨h1.moved ha, fun e he hn => va_Nw.same rfl hv (h2 e he hn), fun e he hn => va_Nw.same rfl hv (h3 e he hn), va_Nw.same rfl hv h4, va_Nw.same rfl hv h5, h6.moved ha, h7.moved ha, h8.moved ha, h9.moved ha⟩
theorem va_Zq.moved' {C n d : String} {A : Nat → Prop} {u U : State} {H : Heap} (hvm : u.vm.Alike U.vm) (h : va_Zq C n d A u H) : va_Zq C n d A U H := va_Zq.moved hvm h
theorem ROF.moved {ad : Int → Nat} {z : Int → Int} {A : Nat → Prop} {u U : State} {H : Heap} (hvm : u.vm.Alike U.vm) (h : ROF ad z A u H) : ROF ad z A U H := by
  obtain ⟨h1, h2, h3, h4, h5, h6, h7⟩ := h
  exact ⟨h1.moved hvm, h2.moved hvm, h3.moved hvm, h4.moved hvm, fun a ha => (h5 a ha).moved hvm, fun a ha => (h6 a ha).moved hvm, fun i hi => ⟨(h7 i hi).1.moved hvm, (h7 i hi).2.1.moved hvm, (h7 i hi).2.2.moved hvm⟩⟩
theorem ROF.kept {ad : Int → Nat} {z : Int → Int} {A : Nat → Prop} {U : State} {H H1 : Heap} (h : ROF ad z A U H) (hq : ∀ a : Nat, a < H.size → ¬ A a → H1[a]? = H[a]?) : ROF ad z A U H1 := by
  obtain ⟨h1, h2, h3, h4, h5, h6, h7⟩ := h
  exact ⟨h1.kept hq, h2.kept hq, h3.kept hq, h4.kept hq, fun a ha => (h5 a ha).kept hq, fun a ha => (h6 a ha).kept hq, fun i hi => ⟨(h7 i hi).1.kept hq, (h7 i hi).2.1.kept hq, (h7 i hi).2.2.kept hq⟩⟩
theorem KB.warm {base : Nat} {ad : Int → Nat} {z : Int → Int} {cA : Nat → ClassId} {D : va_G} {s U : State} {H H1 : Heap} (hW : s.WarmedH U.vm) (h : KB base ad z cA D s H) (hq : ∀ a : Nat, a < H.size → ¬ ZA base a → H1[a]? = H[a]?) : KB base ad z cA D U H1 :=
  ⟨h.1.warm hW, (h.2.1.moved hW.alike).kept hq, fun i e he => (h.2.2 i e he).warm hW⟩
theorem KB.same {base : Nat} {ad : Int → Nat} {z : Int → Int} {cA : Nat → ClassId} {D : va_G} {s U : State} {H : Heap} (hv : s.vm = U.vm) (h : KB base ad z cA D s H) : KB base ad z cA D U H :=
  ⟨h.1.same hv, h.2.1.moved (by rw [hv]; exact Vm.Alike.refl _), fun i e he => (h.2.2 i e he).same hv.symm⟩
end
section
/-! ===== a frame of method mi at a place of the plain machine: the instructions that touch no cell ===== -/
def FO (base : Nat) (ad : Int → Nat) (z : Int → Int) (cA : Nat → ClassId) (D : va_G) (p : Program) (s : State) (m : MethodId) (args : Array Value) (meth : Method) (c : Code) (mi : Nat) : Prop :=
  p.tables.exec = Jvm.exec ∧ c.code = mC mi ∧ c.maxLocals = mL mi ∧ s.vm.findClass (oN (mO mi)) = some m.cls ∧ (∀ w ∈ WB, w.before args s = true) ∧ KB base ad z cA D s s.heap ∧ meth.locks = false ∧ meth.sig.returnType = mR mi ∧ (mK mi = 2 → meth.name = "<init>") ∧ AdOK base ad ∧ base ≤ s.heap.size
def WG (base : Nat) (ad : Int → Nat) (cA : Nat → ClassId) (D : va_G) (n0 mi : Nat) (p : Program) (l : Launch) (e : Env) (R : Room) (s : State) (m : MethodId) (args : Array Value) (below : List Frame) (meth : Method) (c : Code) (Q : State → Prop) (k : Cfg) : Prop :=
  ∀ (H : Heap) (locs : List Loc) (ls : Array Slot), HI base ad cA D H k.2.2.2.1 k.2.2.2.2 → va_S (ZA base) s.heap H locs → LR ad (mL mi) ls k.2.1 →
    W p l e R s m args below meth c H locs (k.2.2.2.2.1 - n0) (sl k.2.2.2.2.1 - sl n0) Q (F0 m k.1 ls (k.2.2.1.map (mv ad)))
theorem cc_eq (x y : Int) : ccmp .eq x y = true ↔ Int32.ofInt x = Int32.ofInt y := by simp [ccmp, e_nl]
theorem cc_ne (x y : Int) : ccmp .ne x y = true ↔ ¬ Int32.ofInt x = Int32.ofInt y := by simp [ccmp, e_nl]
theorem cc_lt (x y : Int) : ccmp .lt x y = true ↔ Int32.ofInt x < Int32.ofInt y := by simp [ccmp, e_lt]
theorem cc_ge (x y : Int) : ccmp .ge x y = true ↔ Int32.ofInt y ≤ Int32.ofInt x := by simp [ccmp, e_le]
theorem cc_gt (x y : Int) : ccmp .gt x y = true ↔ Int32.ofInt y < Int32.ofInt x := by simp [ccmp, e_lt]
theorem cc_le (x y : Int) : ccmp .le x y = true ↔ Int32.ofInt x ≤ Int32.ofInt y := by simp [ccmp, e_le]
theorem nft {b : Bool} (h : ¬ b = true) : b = false := by cases b with
  | true => exact absurd rfl h
  | false => rfl
theorem w32_64 (x : Int) : w64 (w32 x) = w32 x := Int64.toInt_ofInt_of_le (by have := Int32.le_toInt (Int32.ofInt x); unfold w32; omega) (by have := Int32.toInt_lt (Int32.ofInt x); unfold w32; omega)
theorem e_cmp (x y : Int) : lg_cmp (Int64.ofInt x) (Int64.ofInt y) = Int32.ofInt (cmpL x y) := by
  unfold lg_cmp cmpL
  by_cases a : w64 y < w64 x
  · rw [if_pos a, if_pos ((e_lt64 y x).mpr a)]; rfl
  · rw [if_neg a, if_neg (fun q => a ((e_lt64 y x).mp q))]
    by_cases b : w64 x = w64 y
    · rw [if_pos b, if_pos ((e_nl64 x y).mpr b)]; rfl
    · rw [if_neg b, if_neg (fun q => b ((e_nl64 x y).mp q))]; rfl
section FRA
variable {base : Nat} {ad : Int → Nat} {z : Int → Int} {cA : Nat → ClassId} {D : va_G} {n0 mi : Nat} {p : Program} {l : Launch} {e : Env} {R : Room} {s : State} {m : MethodId} {args : Array Value} {below : List Frame} {meth : Method} {c : Code} {Q : State → Prop}
variable {pc : Nat} {ls : PL} {st : List PV} {h : PH} {g : PG}
theorem s_iconst {i : Int} (F : FO base ad z cA D p s m args meth c mi) (hd : decode (mC mi) pc = .ok (.iconst i, 1))  (k : WG base ad cA D n0 mi p l e R s m args below meth c Q (pc + 1, ls, .inl i :: st, h, g)) : WG base ad cA D n0 mi p l e R s m args below meth c Q (pc, ls, st, h, g) := fun H locs l9 hH hS hL =>
  lv_iconst F.1 F.2.1 hd rfl (k H locs l9 hH hS hL)
theorem s_bipush {i : Int} (F : FO base ad z cA D p s m args meth c mi) (hd : decode (mC mi) pc = .ok (.bipush i, 2)) (hi : -128 ≤ i ∧ i ≤ 127) (k : WG base ad cA D n0 mi p l e R s m args below meth c Q (pc + 2, ls, .inl i :: st, h, g)) : WG base ad cA D n0 mi p l e R s m args below meth c Q (pc, ls, st, h, g) := fun H locs l9 hH hS hL =>
  lv_bipush F.1 F.2.1 hd (Int8.toInt32_ofInt (by rw [show Int8.minValue.toInt = -128 from by decide]; exact hi.1) (by rw [show Int8.maxValue.toInt = 127 from by decide]; exact hi.2)) (k H locs l9 hH hS hL)
theorem s_sipush {i : Int} (F : FO base ad z cA D p s m args meth c mi) (hd : decode (mC mi) pc = .ok (.sipush i, 3)) (hi : -32768 ≤ i ∧ i ≤ 32767) (k : WG base ad cA D n0 mi p l e R s m args below meth c Q (pc + 3, ls, .inl i :: st, h, g)) : WG base ad cA D n0 mi p l e R s m args below meth c Q (pc, ls, st, h, g) := fun H locs l9 hH hS hL =>
  lv_sipush F.1 F.2.1 hd (Int16.toInt32_ofInt (by rw [show Int16.minValue.toInt = -32768 from by decide]; exact hi.1) (by rw [show Int16.maxValue.toInt = 32767 from by decide]; exact hi.2)) (k H locs l9 hH hS hL)
theorem s_lconst {i : Fin 2} (F : FO base ad z cA D p s m args meth c mi) (hd : decode (mC mi) pc = .ok (.lconst i, 1))  (k : WG base ad cA D n0 mi p l e R s m args below meth c Q (pc + 1, ls, .inr (.inl ((i : Nat) : Int)) :: st, h, g)) : WG base ad cA D n0 mi p l e R s m args below meth c Q (pc, ls, st, h, g) := fun H locs l9 hH hS hL =>
  lv_lconst F.1 F.2.1 hd (Int64.ofInt_eq_ofNat).symm (k H locs l9 hH hS hL)
theorem s_iadd {x y : Int} (F : FO base ad z cA D p s m args meth c mi) (hd : decode (mC mi) pc = .ok (.iadd, 1))  (k : WG base ad cA D n0 mi p l e R s m args below meth c Q (pc + 1, ls, .inl (x + y) :: st, h, g)) : WG base ad cA D n0 mi p l e R s m args below meth c Q (pc, ls, .inl y :: .inl x :: st, h, g) := fun H locs l9 hH hS hL =>
  lv_iadd F.1 F.2.1 hd (by rw [← Int32.ofInt_add]; exact k H locs l9 hH hS hL)
theorem s_isub {x y : Int} (F : FO base ad z cA D p s m args meth c mi) (hd : decode (mC mi) pc = .ok (.isub, 1))  (k : WG base ad cA D n0 mi p l e R s m args below meth c Q (pc + 1, ls, .inl (x - y) :: st, h, g)) : WG base ad cA D n0 mi p l e R s m args below meth c Q (pc, ls, .inl y :: .inl x :: st, h, g) := fun H locs l9 hH hS hL =>
  lv_isub F.1 F.2.1 hd (by rw [← Int32.ofInt_sub]; exact k H locs l9 hH hS hL)
theorem s_imul {x y : Int} (F : FO base ad z cA D p s m args meth c mi) (hd : decode (mC mi) pc = .ok (.imul, 1))  (k : WG base ad cA D n0 mi p l e R s m args below meth c Q (pc + 1, ls, .inl (x * y) :: st, h, g)) : WG base ad cA D n0 mi p l e R s m args below meth c Q (pc, ls, .inl y :: .inl x :: st, h, g) := fun H locs l9 hH hS hL =>
  lv_imul F.1 F.2.1 hd (by rw [← Int32.ofInt_mul]; exact k H locs l9 hH hS hL)
theorem s_iand {x y : Int} (F : FO base ad z cA D p s m args meth c mi) (hd : decode (mC mi) pc = .ok (.iand, 1))  (k : WG base ad cA D n0 mi p l e R s m args below meth c Q (pc + 1, ls, .inl (andI x y) :: st, h, g)) : WG base ad cA D n0 mi p l e R s m args below meth c Q (pc, ls, .inl y :: .inl x :: st, h, g) := fun H locs l9 hH hS hL =>
  lv_iand F.1 F.2.1 hd (by have k1 := k H locs l9 hH hS hL; rw [List.map_cons, show mv ad (.inl (andI x y)) = .int _ from congrArg Value.int (Int32.ofInt_toInt _)] at k1; exact k1)
theorem s_ior {x y : Int} (F : FO base ad z cA D p s m args meth c mi) (hd : decode (mC mi) pc = .ok (.ior, 1))  (k : WG base ad cA D n0 mi p l e R s m args below meth c Q (pc + 1, ls, .inl (orI x y) :: st, h, g)) : WG base ad cA D n0 mi p l e R s m args below meth c Q (pc, ls, .inl y :: .inl x :: st, h, g) := fun H locs l9 hH hS hL =>
  lv_ior F.1 F.2.1 hd (by have k1 := k H locs l9 hH hS hL; rw [List.map_cons, show mv ad (.inl (orI x y)) = .int _ from congrArg Value.int (Int32.ofInt_toInt _)] at k1; exact k1)
theorem s_ixor {x y : Int} (F : FO base ad z cA D p s m args meth c mi) (hd : decode (mC mi) pc = .ok (.ixor, 1))  (k : WG base ad cA D n0 mi p l e R s m args below meth c Q (pc + 1, ls, .inl (xorI x y) :: st, h, g)) : WG base ad cA D n0 mi p l e R s m args below meth c Q (pc, ls, .inl y :: .inl x :: st, h, g) := fun H locs l9 hH hS hL =>
  lv_ixor F.1 F.2.1 hd (by have k1 := k H locs l9 hH hS hL; rw [List.map_cons, show mv ad (.inl (xorI x y)) = .int _ from congrArg Value.int (Int32.ofInt_toInt _)] at k1; exact k1)
theorem s_ishl {x y : Int} (F : FO base ad z cA D p s m args meth c mi) (hd : decode (mC mi) pc = .ok (.ishl, 1))  (k : WG base ad cA D n0 mi p l e R s m args below meth c Q (pc + 1, ls, .inl (shlI x y) :: st, h, g)) : WG base ad cA D n0 mi p l e R s m args below meth c Q (pc, ls, .inl y :: .inl x :: st, h, g) := fun H locs l9 hH hS hL =>
  lv_ishl F.1 F.2.1 hd (by have k1 := k H locs l9 hH hS hL; rw [List.map_cons, show mv ad (.inl (shlI x y)) = .int _ from congrArg Value.int (Int32.ofInt_toInt _)] at k1; exact k1)
theorem s_ishr {x y : Int} (F : FO base ad z cA D p s m args meth c mi) (hd : decode (mC mi) pc = .ok (.ishr, 1))  (k : WG base ad cA D n0 mi p l e R s m args below meth c Q (pc + 1, ls, .inl (shrI x y) :: st, h, g)) : WG base ad cA D n0 mi p l e R s m args below meth c Q (pc, ls, .inl y :: .inl x :: st, h, g) := fun H locs l9 hH hS hL =>
  lv_ishr F.1 F.2.1 hd (by have k1 := k H locs l9 hH hS hL; rw [List.map_cons, show mv ad (.inl (shrI x y)) = .int _ from congrArg Value.int (Int32.ofInt_toInt _)] at k1; exact k1)
theorem s_iushr {x y : Int} (F : FO base ad z cA D p s m args meth c mi) (hd : decode (mC mi) pc = .ok (.iushr, 1))  (k : WG base ad cA D n0 mi p l e R s m args below meth c Q (pc + 1, ls, .inl (ushrI x y) :: st, h, g)) : WG base ad cA D n0 mi p l e R s m args below meth c Q (pc, ls, .inl y :: .inl x :: st, h, g) := fun H locs l9 hH hS hL =>
  lv_iushr F.1 F.2.1 hd (Int32.ofInt_toInt _).symm (k H locs l9 hH hS hL)
theorem s_idiv {x y : Int} (F : FO base ad z cA D p s m args meth c mi) (hd : decode (mC mi) pc = .ok (.idiv, 1)) (hy : ¬ w32 y = 0) (k : WG base ad cA D n0 mi p l e R s m args below meth c Q (pc + 1, ls, .inl (divI x y) :: st, h, g)) : WG base ad cA D n0 mi p l e R s m args below meth c Q (pc, ls, .inl y :: .inl x :: st, h, g) := fun H locs l9 hH hS hL =>
  lv_idiv F.1 F.2.1 hd (fun q => hy (by have := (e_nl y 0).mp q; rwa [w32_0] at this)) (by have k1 := k H locs l9 hH hS hL; rw [List.map_cons, show mv ad (.inl (divI x y)) = .int _ from congrArg Value.int (Int32.ofInt_toInt _)] at k1; exact k1)
theorem s_irem {x y : Int} (F : FO base ad z cA D p s m args meth c mi) (hd : decode (mC mi) pc = .ok (.irem, 1)) (hy : ¬ w32 y = 0) (k : WG base ad cA D n0 mi p l e R s m args below meth c Q (pc + 1, ls, .inl (remI x y) :: st, h, g)) : WG base ad cA D n0 mi p l e R s m args below meth c Q (pc, ls, .inl y :: .inl x :: st, h, g) := fun H locs l9 hH hS hL =>
  lv_irem F.1 F.2.1 hd (fun q => hy (by have := (e_nl y 0).mp q; rwa [w32_0] at this)) (by have k1 := k H locs l9 hH hS hL; rw [List.map_cons, show mv ad (.inl (remI x y)) = .int _ from congrArg Value.int (Int32.ofInt_toInt _)] at k1; exact k1)
theorem s_ldiv {x y : Int} (F : FO base ad z cA D p s m args meth c mi) (hd : decode (mC mi) pc = .ok (.ldiv, 1)) (hy : ¬ w64 y = 0) (k : WG base ad cA D n0 mi p l e R s m args below meth c Q (pc + 1, ls, .inr (.inl (divL x y)) :: st, h, g)) : WG base ad cA D n0 mi p l e R s m args below meth c Q (pc, ls, .inr (.inl y) :: .inr (.inl x) :: st, h, g) := fun H locs l9 hH hS hL =>
  lv_ldiv F.1 F.2.1 hd (fun q => hy (by have := (e_nl64 y 0).mp q; rwa [show w64 0 = 0 from by decide] at this)) (by have k1 := k H locs l9 hH hS hL; rw [List.map_cons, show mv ad (.inr (.inl (divL x y))) = .long _ from congrArg Value.long (Int64.ofInt_toInt _)] at k1; exact k1)
theorem s_lrem {x y : Int} (F : FO base ad z cA D p s m args meth c mi) (hd : decode (mC mi) pc = .ok (.lrem, 1)) (hy : ¬ w64 y = 0) (k : WG base ad cA D n0 mi p l e R s m args below meth c Q (pc + 1, ls, .inr (.inl (remL x y)) :: st, h, g)) : WG base ad cA D n0 mi p l e R s m args below meth c Q (pc, ls, .inr (.inl y) :: .inr (.inl x) :: st, h, g) := fun H locs l9 hH hS hL =>
  lv_lrem F.1 F.2.1 hd (fun q => hy (by have := (e_nl64 y 0).mp q; rwa [show w64 0 = 0 from by decide] at this)) (by have k1 := k H locs l9 hH hS hL; rw [List.map_cons, show mv ad (.inr (.inl (remL x y))) = .long _ from congrArg Value.long (Int64.ofInt_toInt _)] at k1; exact k1)
theorem s_ineg {x : Int} (F : FO base ad z cA D p s m args meth c mi) (hd : decode (mC mi) pc = .ok (.ineg, 1))  (k : WG base ad cA D n0 mi p l e R s m args below meth c Q (pc + 1, ls, .inl (-x) :: st, h, g)) : WG base ad cA D n0 mi p l e R s m args below meth c Q (pc, ls, .inl x :: st, h, g) := fun H locs l9 hH hS hL =>
  lv_ineg F.1 F.2.1 hd (by rw [← Int32.ofInt_neg]; exact k H locs l9 hH hS hL)
theorem s_lneg {x : Int} (F : FO base ad z cA D p s m args meth c mi) (hd : decode (mC mi) pc = .ok (.lneg, 1))  (k : WG base ad cA D n0 mi p l e R s m args below meth c Q (pc + 1, ls, .inr (.inl (-x)) :: st, h, g)) : WG base ad cA D n0 mi p l e R s m args below meth c Q (pc, ls, .inr (.inl x) :: st, h, g) := fun H locs l9 hH hS hL =>
  lv_lneg F.1 F.2.1 hd (by rw [← Int64.ofInt_neg]; exact k H locs l9 hH hS hL)
theorem s_ladd {x y : Int} (F : FO base ad z cA D p s m args meth c mi) (hd : decode (mC mi) pc = .ok (.ladd, 1))  (k : WG base ad cA D n0 mi p l e R s m args below meth c Q (pc + 1, ls, .inr (.inl (x + y)) :: st, h, g)) : WG base ad cA D n0 mi p l e R s m args below meth c Q (pc, ls, .inr (.inl y) :: .inr (.inl x) :: st, h, g) := fun H locs l9 hH hS hL =>
  lv_ladd F.1 F.2.1 hd (by rw [← Int64.ofInt_add]; exact k H locs l9 hH hS hL)
theorem s_lsub {x y : Int} (F : FO base ad z cA D p s m args meth c mi) (hd : decode (mC mi) pc = .ok (.lsub, 1))  (k : WG base ad cA D n0 mi p l e R s m args below meth c Q (pc + 1, ls, .inr (.inl (x - y)) :: st, h, g)) : WG base ad cA D n0 mi p l e R s m args below meth c Q (pc, ls, .inr (.inl y) :: .inr (.inl x) :: st, h, g) := fun H locs l9 hH hS hL =>
  lv_lsub F.1 F.2.1 hd (by rw [← Int64.ofInt_sub]; exact k H locs l9 hH hS hL)
theorem s_lmul {x y : Int} (F : FO base ad z cA D p s m args meth c mi) (hd : decode (mC mi) pc = .ok (.lmul, 1))  (k : WG base ad cA D n0 mi p l e R s m args below meth c Q (pc + 1, ls, .inr (.inl (x * y)) :: st, h, g)) : WG base ad cA D n0 mi p l e R s m args below meth c Q (pc, ls, .inr (.inl y) :: .inr (.inl x) :: st, h, g) := fun H locs l9 hH hS hL =>
  lv_lmul F.1 F.2.1 hd (by rw [← Int64.ofInt_mul]; exact k H locs l9 hH hS hL)
theorem s_i2b {x : Int} (F : FO base ad z cA D p s m args meth c mi) (hd : decode (mC mi) pc = .ok (.i2b, 1))  (k : WG base ad cA D n0 mi p l e R s m args below meth c Q (pc + 1, ls, .inl (i2bI x) :: st, h, g)) : WG base ad cA D n0 mi p l e R s m args below meth c Q (pc, ls, .inl x :: st, h, g) := fun H locs l9 hH hS hL =>
  lv_i2b F.1 F.2.1 hd (Int32.ofInt_toInt _).symm (k H locs l9 hH hS hL)
theorem s_i2c {x : Int} (F : FO base ad z cA D p s m args meth c mi) (hd : decode (mC mi) pc = .ok (.i2c, 1))  (k : WG base ad cA D n0 mi p l e R s m args below meth c Q (pc + 1, ls, .inl (i2cI x) :: st, h, g)) : WG base ad cA D n0 mi p l e R s m args below meth c Q (pc, ls, .inl x :: st, h, g) := fun H locs l9 hH hS hL =>
  lv_i2c F.1 F.2.1 hd (Int32.ofInt_toInt _).symm (k H locs l9 hH hS hL)
theorem s_i2l {x : Int} (F : FO base ad z cA D p s m args meth c mi) (hd : decode (mC mi) pc = .ok (.i2l, 1))  (k : WG base ad cA D n0 mi p l e R s m args below meth c Q (pc + 1, ls, .inr (.inl (w32 x)) :: st, h, g)) : WG base ad cA D n0 mi p l e R s m args below meth c Q (pc, ls, .inl x :: st, h, g) := fun H locs l9 hH hS hL =>
  lv_i2l F.1 F.2.1 hd (Int64.toInt_inj.mp (by rw [Int32.toInt_toInt64]; exact (w32_64 x).symm)) (k H locs l9 hH hS hL)
theorem s_l2i {x : Int} (F : FO base ad z cA D p s m args meth c mi) (hd : decode (mC mi) pc = .ok (.l2i, 1))  (k : WG base ad cA D n0 mi p l e R s m args below meth c Q (pc + 1, ls, .inl x :: st, h, g)) : WG base ad cA D n0 mi p l e R s m args below meth c Q (pc, ls, .inr (.inl x) :: st, h, g) := fun H locs l9 hH hS hL =>
  lv_l2i F.1 F.2.1 hd Int64.toInt32_ofInt (k H locs l9 hH hS hL)
theorem s_lcmp {x y : Int} (F : FO base ad z cA D p s m args meth c mi) (hd : decode (mC mi) pc = .ok (.lcmp, 1))  (k : WG base ad cA D n0 mi p l e R s m args below meth c Q (pc + 1, ls, .inl (cmpL x y) :: st, h, g)) : WG base ad cA D n0 mi p l e R s m args below meth c Q (pc, ls, .inr (.inl y) :: .inr (.inl x) :: st, h, g) := fun H locs l9 hH hS hL =>
  W.lcmp F.1 F.2.1 hd (by rw [e_cmp]; exact k H locs l9 hH hS hL)
theorem s_dup {v : PV} (F : FO base ad z cA D p s m args meth c mi) (hd : decode (mC mi) pc = .ok (.dup, 1)) (hv : pcat v = 1) (k : WG base ad cA D n0 mi p l e R s m args below meth c Q (pc + 1, ls, v :: v :: st, h, g)) : WG base ad cA D n0 mi p l e R s m args below meth c Q (pc, ls, v :: st, h, g) := fun H locs l9 hH hS hL =>
  lv_dup F.1 F.2.1 hd ((mv_cat ad v).trans hv) (k H locs l9 hH hS hL)
theorem s_pop {v : PV} (F : FO base ad z cA D p s m args meth c mi) (hd : decode (mC mi) pc = .ok (.pop, 1)) (hv : pcat v = 1) (k : WG base ad cA D n0 mi p l e R s m args below meth c Q (pc + 1, ls, st, h, g)) : WG base ad cA D n0 mi p l e R s m args below meth c Q (pc, ls, v :: st, h, g) := fun H locs l9 hH hS hL =>
  lv_pop F.1 F.2.1 hd ((mv_cat ad v).trans hv) (k H locs l9 hH hS hL)
theorem s_pop2 {v : PV} (F : FO base ad z cA D p s m args meth c mi) (hd : decode (mC mi) pc = .ok (.pop2, 1)) (hv : pcat v = 2) (k : WG base ad cA D n0 mi p l e R s m args below meth c Q (pc + 1, ls, st, h, g)) : WG base ad cA D n0 mi p l e R s m args below meth c Q (pc, ls, v :: st, h, g) := fun H locs l9 hH hS hL =>
  lv_pop2_2 F.1 F.2.1 hd ((mv_cat ad v).trans hv) (k H locs l9 hH hS hL)
theorem s_dup2 {v w : PV} (F : FO base ad z cA D p s m args meth c mi) (hd : decode (mC mi) pc = .ok (.dup2, 1)) (hv : pcat v = 1) (hw : pcat w = 1) (k : WG base ad cA D n0 mi p l e R s m args below meth c Q (pc + 1, ls, v :: w :: v :: w :: st, h, g)) : WG base ad cA D n0 mi p l e R s m args below meth c Q (pc, ls, v :: w :: st, h, g) := fun H locs l9 hH hS hL =>
  lv_dup2_11 F.1 F.2.1 hd ((mv_cat ad v).trans hv) ((mv_cat ad w).trans hw) (k H locs l9 hH hS hL)
theorem s_dup_x1 {v w : PV} (F : FO base ad z cA D p s m args meth c mi) (hd : decode (mC mi) pc = .ok (.dup_x1, 1)) (hv : pcat v = 1) (hw : pcat w = 1) (k : WG base ad cA D n0 mi p l e R s m args below meth c Q (pc + 1, ls, v :: w :: v :: st, h, g)) : WG base ad cA D n0 mi p l e R s m args below meth c Q (pc, ls, v :: w :: st, h, g) := fun H locs l9 hH hS hL =>
  lv_dup_x1 F.1 F.2.1 hd ((mv_cat ad v).trans hv) ((mv_cat ad w).trans hw) (k H locs l9 hH hS hL)
theorem s_iload_n {i : Fin 4} {x : Int} (F : FO base ad z cA D p s m args meth c mi) (hd : decode (mC mi) pc = .ok (.iload_n i, 1)) (hx : lget ls i = some (.inl x)) (k : WG base ad cA D n0 mi p l e R s m args below meth c Q (pc + 1, ls, .inl x :: st, h, g)) : WG base ad cA D n0 mi p l e R s m args below meth c Q (pc, ls, st, h, g) := fun H locs l9 hH hS hL =>
  lv_iload_n F.1 F.2.1 hd rfl (hL.get hx) (k H locs l9 hH hS hL)
theorem s_iload {i : Nat} {x : Int} (F : FO base ad z cA D p s m args meth c mi) (hd : decode (mC mi) pc = .ok (.iload i, 2)) (hx : lget ls i = some (.inl x)) (k : WG base ad cA D n0 mi p l e R s m args below meth c Q (pc + 2, ls, .inl x :: st, h, g)) : WG base ad cA D n0 mi p l e R s m args below meth c Q (pc, ls, st, h, g) := fun H locs l9 hH hS hL =>
  lv_iload F.1 F.2.1 hd (hL.get hx) (k H locs l9 hH hS hL)
theorem s_lload_n {i : Fin 4} {x : Int} (F : FO base ad z cA D p s m args meth c mi) (hd : decode (mC mi) pc = .ok (.lload_n i, 1)) (hx : lget ls i = some (.inr (.inl x))) (k : WG base ad cA D n0 mi p l e R s m args below meth c Q (pc + 1, ls, .inr (.inl x) :: st, h, g)) : WG base ad cA D n0 mi p l e R s m args below meth c Q (pc, ls, st, h, g) := fun H locs l9 hH hS hL =>
  lv_lload_n F.1 F.2.1 hd rfl (hL.get hx) (k H locs l9 hH hS hL)
theorem s_lload {i : Nat} {x : Int} (F : FO base ad z cA D p s m args meth c mi) (hd : decode (mC mi) pc = .ok (.lload i, 2)) (hx : lget ls i = some (.inr (.inl x))) (k : WG base ad cA D n0 mi p l e R s m args below meth c Q (pc + 2, ls, .inr (.inl x) :: st, h, g)) : WG base ad cA D n0 mi p l e R s m args below meth c Q (pc, ls, st, h, g) := fun H locs l9 hH hS hL =>
  lv_lload F.1 F.2.1 hd (hL.get hx) (k H locs l9 hH hS hL)
theorem s_aload_n {i : Fin 4} {x : Int} (F : FO base ad z cA D p s m args meth c mi) (hd : decode (mC mi) pc = .ok (.aload_n i, 1)) (hx : lget ls i = some (.inr (.inr x))) (k : WG base ad cA D n0 mi p l e R s m args below meth c Q (pc + 1, ls, .inr (.inr x) :: st, h, g)) : WG base ad cA D n0 mi p l e R s m args below meth c Q (pc, ls, st, h, g) := fun H locs l9 hH hS hL =>
  lv_aload_n F.1 F.2.1 hd rfl (hL.get hx) (k H locs l9 hH hS hL)
theorem s_aload {i : Nat} {x : Int} (F : FO base ad z cA D p s m args meth c mi) (hd : decode (mC mi) pc = .ok (.aload i, 2)) (hx : lget ls i = some (.inr (.inr x))) (k : WG base ad cA D n0 mi p l e R s m args below meth c Q (pc + 2, ls, .inr (.inr x) :: st, h, g)) : WG base ad cA D n0 mi p l e R s m args below meth c Q (pc, ls, st, h, g) := fun H locs l9 hH hS hL =>
  lv_aload F.1 F.2.1 hd (hL.get hx) (k H locs l9 hH hS hL)
theorem s_istore_n {i : Fin 4} {x : Int} (F : FO base ad z cA D p s m args meth c mi) (hd : decode (mC mi) pc = .ok (.istore_n i, 1)) (hi : (i : Nat) < ls.length) (hf : lfree ls (i : Nat) = true) (k : WG base ad cA D n0 mi p l e R s m args below meth c Q (pc + 1, (ls.set (i : Nat) (some (.inl x))), st, h, g)) : WG base ad cA D n0 mi p l e R s m args below meth c Q (pc, ls, .inl x :: st, h, g) := fun H locs l9 hH hS hL =>
  lv_istore_n F.1 F.2.1 hd rfl hL.has (by have q9 : ls.length = mL mi := hL.2.1; omega) rfl (fun l8 h8 => k H locs l8 hH hS (hL.put1 hi hf h8))
theorem s_istore {i : Nat} {x : Int} (F : FO base ad z cA D p s m args meth c mi) (hd : decode (mC mi) pc = .ok (.istore i, 2)) (hi : i < ls.length) (hf : lfree ls i = true) (k : WG base ad cA D n0 mi p l e R s m args below meth c Q (pc + 2, (ls.set i (some (.inl x))), st, h, g)) : WG base ad cA D n0 mi p l e R s m args below meth c Q (pc, ls, .inl x :: st, h, g) := fun H locs l9 hH hS hL =>
  lv_istore F.1 F.2.1 hd hL.has (by have q9 : ls.length = mL mi := hL.2.1; omega) rfl (fun l8 h8 => k H locs l8 hH hS (hL.put1 hi hf h8))
theorem s_lstore_n {i : Fin 4} {x : Int} (F : FO base ad z cA D p s m args meth c mi) (hd : decode (mC mi) pc = .ok (.lstore_n i, 1)) (hi : (i : Nat) + 1 < ls.length) (hf : lfree ls (i : Nat) = true) (k : WG base ad cA D n0 mi p l e R s m args below meth c Q (pc + 1, ((ls.set (i : Nat) (some (.inr (.inl x)))).set ((i : Nat) + 1) none), st, h, g)) : WG base ad cA D n0 mi p l e R s m args below meth c Q (pc, ls, .inr (.inl x) :: st, h, g) := fun H locs l9 hH hS hL =>
  lv_lstore_n F.1 F.2.1 hd rfl hL.has (by have q9 : ls.length = mL mi := hL.2.1; omega) rfl (fun l8 h8 => k H locs l8 hH hS (hL.put2 hi hf h8))
theorem s_lstore {i : Nat} {x : Int} (F : FO base ad z cA D p s m args meth c mi) (hd : decode (mC mi) pc = .ok (.lstore i, 2)) (hi : i + 1 < ls.length) (hf : lfree ls i = true) (k : WG base ad cA D n0 mi p l e R s m args below meth c Q (pc + 2, ((ls.set i (some (.inr (.inl x)))).set (i + 1) none), st, h, g)) : WG base ad cA D n0 mi p l e R s m args below meth c Q (pc, ls, .inr (.inl x) :: st, h, g) := fun H locs l9 hH hS hL =>
  lv_lstore F.1 F.2.1 hd hL.has (by have q9 : ls.length = mL mi := hL.2.1; omega) rfl (fun l8 h8 => k H locs l8 hH hS (hL.put2 hi hf h8))
theorem s_astore_n {i : Fin 4} {x : Int} (F : FO base ad z cA D p s m args meth c mi) (hd : decode (mC mi) pc = .ok (.astore_n i, 1)) (hi : (i : Nat) < ls.length) (hf : lfree ls (i : Nat) = true) (k : WG base ad cA D n0 mi p l e R s m args below meth c Q (pc + 1, (ls.set (i : Nat) (some (.inr (.inr x)))), st, h, g)) : WG base ad cA D n0 mi p l e R s m args below meth c Q (pc, ls, .inr (.inr x) :: st, h, g) := fun H locs l9 hH hS hL =>
  lv_astore_n F.1 F.2.1 hd rfl hL.has (by have q9 : ls.length = mL mi := hL.2.1; omega) rfl (fun l8 h8 => k H locs l8 hH hS (hL.put1 hi hf h8))
theorem s_astore {i : Nat} {x : Int} (F : FO base ad z cA D p s m args meth c mi) (hd : decode (mC mi) pc = .ok (.astore i, 2)) (hi : i < ls.length) (hf : lfree ls i = true) (k : WG base ad cA D n0 mi p l e R s m args below meth c Q (pc + 2, (ls.set i (some (.inr (.inr x)))), st, h, g)) : WG base ad cA D n0 mi p l e R s m args below meth c Q (pc, ls, .inr (.inr x) :: st, h, g) := fun H locs l9 hH hS hL =>
  lv_astore F.1 F.2.1 hd hL.has (by have q9 : ls.length = mL mi := hL.2.1; omega) rfl (fun l8 h8 => k H locs l8 hH hS (hL.put1 hi hf h8))
theorem s_iinc {i : Nat} {q x : Int} (F : FO base ad z cA D p s m args meth c mi) (hd : decode (mC mi) pc = .ok (.iinc i q, 3)) (hx : lget ls i = some (.inl x)) (hi : i < ls.length) (hf : lfree ls i = true) (k : WG base ad cA D n0 mi p l e R s m args below meth c Q (pc + 3, ls.set i (some (.inl (x + q))), st, h, g)) : WG base ad cA D n0 mi p l e R s m args below meth c Q (pc, ls, st, h, g) := fun H locs l9 hH hS hL =>
  lv_iinc (k := 0) (lv := (i, mv ad (.inl x)) :: toL ad ls) F.1 F.2.1 hd ⟨hL.1, hL.2.2.1, fun y hy => by
    rcases List.mem_cons.mp hy with rfl | hy
    · exact hL.get hx
    · exact hL.has.2.2 y hy⟩ rfl (Int32.ofInt_add x q).symm (by have q9 : ls.length = mL mi := hL.2.1; omega) rfl (fun l8 h8 => k H locs l8 hH hS (hL.put1 hi hf ⟨h8.1, h8.2.1, fun y hy => by
      refine h8.2.2 y ?_
      rcases List.mem_cons.mp hy with rfl | hy
      · exact List.mem_cons_self
      · refine List.mem_cons_of_mem _ ?_
        obtain ⟨a1, a2⟩ := List.mem_filter.mp hy
        exact List.mem_filter.mpr ⟨List.mem_cons_of_mem _ a1, a2⟩⟩))
theorem s_goto {off : Int} (F : FO base ad z cA D p s m args meth c mi) (hd : decode (mC mi) pc = .ok (.goto off, 3)) (ho : 0 ≤ (pc : Int) + off) (k : WG base ad cA D n0 mi p l e R s m args below meth c Q (tgtOf pc off, ls, st, h, g)) : WG base ad cA D n0 mi p l e R s m args below meth c Q (pc, ls, st, h, g) := fun H locs l9 hH hS hL =>
  lv_goto F.1 F.2.1 hd (Int.toNat_of_nonneg ho).symm (k H locs l9 hH hS hL)
theorem s_icmp {q : ClassFile.Cond} {x y off : Int} (F : FO base ad z cA D p s m args meth c mi) (hd : decode (mC mi) pc = .ok (.if_icmp q off, 3)) (ho : 0 ≤ (pc : Int) + off) (kt : ccmp q x y = true → WG base ad cA D n0 mi p l e R s m args below meth c Q (tgtOf pc off, ls, st, h, g)) (kf : ccmp q x y = false → WG base ad cA D n0 mi p l e R s m args below meth c Q (pc + 3, ls, st, h, g)) : WG base ad cA D n0 mi p l e R s m args below meth c Q (pc, ls, .inl y :: .inl x :: st, h, g) := fun H locs l9 hH hS hL => by
  have ht : (pc : Int) + off = (tgtOf pc off : Int) := (Int.toNat_of_nonneg ho).symm
  have kt2 := fun q1 => kt q1 H locs l9 hH hS hL
  have kf2 := fun q1 => kf q1 H locs l9 hH hS hL
  cases q with
  | eq => exact lv_icmp_eq F.1 F.2.1 hd ht (fun h => kt2 ((cc_eq x y).mpr h)) (fun h => kf2 (nft (fun q => h ((cc_eq x y).mp q))))
  | ne => exact lv_icmp_ne F.1 F.2.1 hd ht (fun h => kt2 ((cc_ne x y).mpr h)) (fun h => kf2 (nft (fun q => (cc_ne x y).mp q h)))
  | lt => exact lv_icmp_lt F.1 F.2.1 hd ht (fun h => kt2 ((cc_lt x y).mpr h)) (fun h => kf2 (nft (fun q => h ((cc_lt x y).mp q))))
  | ge => exact lv_icmp_ge F.1 F.2.1 hd ht (fun h => kt2 ((cc_ge x y).mpr h)) (fun h => kf2 (nft (fun q => h ((cc_ge x y).mp q))))
  | gt => exact lv_icmp_gt F.1 F.2.1 hd ht (fun h => kt2 ((cc_gt x y).mpr h)) (fun h => kf2 (nft (fun q => h ((cc_gt x y).mp q))))
  | le => exact lv_icmp_le F.1 F.2.1 hd ht (fun h => kt2 ((cc_le x y).mpr h)) (fun h => kf2 (nft (fun q => h ((cc_le x y).mp q))))
theorem s_ifc {q : ClassFile.Cond} {x off : Int} (F : FO base ad z cA D p s m args meth c mi) (hd : decode (mC mi) pc = .ok (.ifCond q off, 3)) (ho : 0 ≤ (pc : Int) + off) (kt : ccmp q x 0 = true → WG base ad cA D n0 mi p l e R s m args below meth c Q (tgtOf pc off, ls, st, h, g)) (kf : ccmp q x 0 = false → WG base ad cA D n0 mi p l e R s m args below meth c Q (pc + 3, ls, st, h, g)) : WG base ad cA D n0 mi p l e R s m args below meth c Q (pc, ls, .inl x :: st, h, g) := fun H locs l9 hH hS hL => by
  have ht : (pc : Int) + off = (tgtOf pc off : Int) := (Int.toNat_of_nonneg ho).symm
  have kt2 := fun q1 => kt q1 H locs l9 hH hS hL
  have kf2 := fun q1 => kf q1 H locs l9 hH hS hL
  cases q with
  | eq => exact lv_if_eq F.1 F.2.1 hd ht (fun h => kt2 ((cc_eq x 0).mpr h)) (fun h => kf2 (nft (fun q => h ((cc_eq x 0).mp q))))
  | ne => exact lv_if_ne F.1 F.2.1 hd ht (fun h => kt2 ((cc_ne x 0).mpr h)) (fun h => kf2 (nft (fun q => (cc_ne x 0).mp q h)))
  | lt => exact lv_if_lt F.1 F.2.1 hd ht (fun h => kt2 ((cc_lt x 0).mpr h)) (fun h => kf2 (nft (fun q => h ((cc_lt x 0).mp q))))
  | ge => exact lv_if_ge F.1 F.2.1 hd ht (fun h => kt2 ((cc_ge x 0).mpr h)) (fun h => kf2 (nft (fun q => h ((cc_ge x 0).mp q))))
  | gt => exact lv_if_gt F.1 F.2.1 hd ht (fun h => kt2 ((cc_gt x 0).mpr h)) (fun h => kf2 (nft (fun q => h ((cc_gt x 0).mp q))))
  | le => exact lv_if_le F.1 F.2.1 hd ht (fun h => kt2 ((cc_le x 0).mpr h)) (fun h => kf2 (nft (fun q => h ((cc_le x 0).mp q))))
theorem s_tableOut {d lo hi : Int} {os : Array Int} {len : Nat} {x : Int} (F : FO base ad z cA D p s m args meth c mi) (hd : decode (mC mi) pc = .ok (.tableswitch d lo hi os, len)) (hx : w32 x < lo ∨ hi < w32 x) (ho : 0 ≤ (pc : Int) + d) (k : WG base ad cA D n0 mi p l e R s m args below meth c Q (tgtOf pc d, ls, st, h, g)) : WG base ad cA D n0 mi p l e R s m args below meth c Q (pc, ls, .inl x :: st, h, g) := fun H locs l9 hH hS hL =>
  lv_tableOut F.1 F.2.1 hd hx (Int.toNat_of_nonneg ho).symm (k H locs l9 hH hS hL)
theorem s_tableIn {d lo hi off : Int} {os : Array Int} {len : Nat} {x : Int} (F : FO base ad z cA D p s m args meth c mi) (hd : decode (mC mi) pc = .ok (.tableswitch d lo hi os, len)) (hx : ¬ (w32 x < lo ∨ hi < w32 x)) (hof : os[(w32 x - lo).toNat]? = some off) (ho : 0 ≤ (pc : Int) + off) (k : WG base ad cA D n0 mi p l e R s m args below meth c Q (tgtOf pc off, ls, st, h, g)) : WG base ad cA D n0 mi p l e R s m args below meth c Q (pc, ls, .inl x :: st, h, g) := fun H locs l9 hH hS hL =>
  lv_tableIn F.1 F.2.1 hd (fun q => hx (Or.inl q)) (fun q => hx (Or.inr q)) hof (Int.toNat_of_nonneg ho).symm (k H locs l9 hH hS hL)
theorem s_lookup {d : Int} {ps : Array (Int × Int)} {len : Nat} {x : Int} (F : FO base ad z cA D p s m args meth c mi) (hd : decode (mC mi) pc = .ok (.lookupswitch d ps, len)) (hp : (ps.toList.zip (ps.toList.drop 1)).all (fun q => decide (q.1.1 < q.2.1)) = true) (ho : 0 ≤ (pc : Int) + Op.lookupswitch.offset ps.toList d (w32 x)) (k : WG base ad cA D n0 mi p l e R s m args below meth c Q (tgtOf pc (Op.lookupswitch.offset ps.toList d (w32 x)), ls, st, h, g)) : WG base ad cA D n0 mi p l e R s m args below meth c Q (pc, ls, .inl x :: st, h, g) := fun H locs l9 hH hS hL =>
  lv_lookup F.1 F.2.1 hd hp rfl (Int.toNat_of_nonneg ho).symm (k H locs l9 hH hS hL)
end FRA
end
section
/-! ===== a frame of method mi at a place of the plain machine: the cells ===== -/
theorem isO_spec {a : Int} {k n : Nat} (h : isO a k n = true) : 0 ≤ a ∧ a.toNat < n ∧ ((a.toNat : Nat) : Int) = a ∧ (sid a).1 = k := by
  unfold isO at h
  simp only [Bool.and_eq_true, decide_eq_true_eq] at h
  obtain ⟨h0, h1, h2⟩ := h
  exact ⟨h0, by omega, by omega, h2⟩
theorem sid_eq {a : Int} {k : Nat} (h : (sid a).1 = k) (hk : k ≠ 99) : a < 1000 ∧ sid a = shL.getD a.toNat (99, 0) := by
  unfold sid at h ⊢
  by_cases q : 0 ≤ a ∧ a < 1000
  · rw [if_pos q]; exact ⟨q.2, rfl⟩
  · rw [if_neg q] at h; exact absurd h.symm hk
theorem isO_sh {a : Int} {k n : Nat} (h : isO a k n = true) (hk : k ≠ 99) : (shL.getD a.toNat (99, 0)).1 = k ∧ (shL.getD a.toNat (99, 0)).2 = alen a := by
  obtain ⟨-, -, -, h3⟩ := isO_spec h
  obtain ⟨-, e⟩ := sid_eq h3 hk
  unfold alen
  rw [e] at h3
  exact ⟨h3, by rw [e]⟩
theorem cellE_congr {ad : Int → Nat} {cA : Nat → ClassId} {h h' : PH} {r r' : Int → Int → Int} {b : Nat} (e1 : ∀ j, h' b j = h b j) (e2 : ∀ j, r' b j = r b j) : cellE ad cA h' r' b = cellE ad cA h r b := by
  unfold cellE slotV
  simp only [e1, e2]
theorem cellE_I {ad : Int → Nat} {cA : Nat → ClassId} {h : PH} {r : Int → Int → Int} {a : Int} {n : Nat} (ho : isO a 10 n = true) : cellE ad cA h r a.toNat = .inl (cA 0, alen a, .inl (fun j => Int32.ofInt (h a j))) := by
  obtain ⟨e1, e2⟩ := isO_sh ho (by decide)
  unfold cellE
  simp only [e1, e2, (isO_spec ho).2.2.1]
  rfl
theorem cellE_J {ad : Int → Nat} {cA : Nat → ClassId} {h : PH} {r : Int → Int → Int} {a : Int} {n : Nat} (ho : isO a 11 n = true) : cellE ad cA h r a.toNat = .inl (cA 1, alen a, .inr (.inl (fun j => Int64.ofInt (h a j)))) := by
  obtain ⟨e1, e2⟩ := isO_sh ho (by decide)
  unfold cellE
  simp only [e1, e2, (isO_spec ho).2.2.1]
  rfl
theorem cellE_C {ad : Int → Nat} {cA : Nat → ClassId} {h : PH} {r : Int → Int → Int} {a : Int} {n : Nat} (ho : isO a 12 n = true) : cellE ad cA h r a.toNat = .inl (cA 2, alen a, .inl (fun j => Int32.ofInt (h a j))) := by
  obtain ⟨e1, e2⟩ := isO_sh ho (by decide)
  unfold cellE
  simp only [e1, e2, (isO_spec ho).2.2.1]
  rfl
theorem cellE_R {ad : Int → Nat} {cA : Nat → ClassId} {h : PH} {r : Int → Int → Int} {a : Int} {k n : Nat} (ho : isO a k n = true) (h1 : 13 ≤ k) (h2 : k ≤ 16) : cellE ad cA h r a.toNat = .inl (cA (k - 10), alen a, .inr (.inr (.inr (.inr (fun j => rnv ad (r a j)))))) := by
  obtain ⟨e1, e2⟩ := isO_sh ho (by omega)
  unfold cellE
  simp only [e1, e2, (isO_spec ho).2.2.1]
  rw [if_neg (by omega), if_neg (by omega), if_neg (by omega), if_neg (by omega)]
theorem cellE_O {ad : Int → Nat} {cA : Nat → ClassId} {h : PH} {r : Int → Int → Int} {a : Int} {k n : Nat} (ho : isO a k n = true) (h1 : k < 9) : cellE ad cA h r a.toNat = .inr (k, (List.range (alen a)).map (fun j => slotV ad h r k j a)) := by
  obtain ⟨e1, e2⟩ := isO_sh ho (by omega)
  unfold cellE
  simp only [e1, e2, (isO_spec ho).2.2.1]
  rw [if_pos h1]
theorem WS_at {ad : Int → Nat} {cA : Nat → ClassId} {h : PH} {g : PG} {a : Int} {k : Nat} (ho : isO a k g.1 = true) {e : va_E} (he : cellE ad cA h g.2 a.toNat = e) : (WS ad cA h g)[a.toNat]? = some (ad a, e) := by
  have h1 := WS_get (ad := ad) (cA := cA) (h := h) (g := g) (isO_spec ho).2.1
  rw [he, (isO_spec ho).2.2.1] at h1
  exact h1
theorem WS_set {ad : Int → Nat} {cA : Nat → ClassId} {h h' : PH} {g g' : PG} {a : Nat} (ha : a < g.1) (hn : g'.1 = g.1) (hw : ∀ b, b < g.1 → b ≠ a → cellE ad cA h' g'.2 b = cellE ad cA h g.2 b) : (WS ad cA h g).set a (ad a, cellE ad cA h' g'.2 a) = WS ad cA h' g' := by
  apply List.ext_getElem?
  intro j
  by_cases hj : j < g.1
  · rw [WS_get (by omega)]
    by_cases e : a = j
    · subst e
      rw [List.getElem?_set_self (by simp [WS]; exact ha)]
    · rw [List.getElem?_set_ne e, WS_get hj, hw j hj (fun q => e q.symm)]
  · rw [List.getElem?_eq_none (by simp [WS]; omega), List.getElem?_eq_none (by simp [WS]; omega)]
theorem HI_set {base : Nat} {ad : Int → Nat} (had : AdOK base ad) {cA : Nat → ClassId} {D : va_G} {H H1 : Heap} {h h' : PH} {g g' : PG} (hH : HI base ad cA D H h g) {a : Nat} (ha : a < g.1) (hn : g'.1 = g.1) (hw : ∀ b, b < g.1 → b ≠ a → cellE ad cA h' g'.2 b = cellE ad cA h g.2 b)
    (hat : va_at D vwCl (ad a, cellE ad cA h' g'.2 a) H1) (z : H1.size = H.size) (oq : ∀ q : Nat, q ≠ ad a → H1[q]? = H[q]?) : HI base ad cA D H1 h' g' := by
  refine ⟨by rw [z, hH.1, hn], by rw [hn]; exact hH.2.1, ?_⟩
  have h1 := hH.2.2.set (WS_D had hH.2.1) (WS_get ha) hat oq
  rwa [WS_set ha hn hw] at h1
theorem ad_A {base : Nat} {ad : Int → Nat} (had : AdOK base ad) {a : Int} {k n : Nat} (ho : isO a k n = true) (hn : n ≤ nCell) : ZA base (ad a) := by
  obtain ⟨h0, h1, h2, -⟩ := isO_spec ho
  have := nCell_le
  unfold ZA
  rw [had a h0 (by omega)]
  omega
theorem u2_o {h : Int → Int → Int} {a k v : Int} {b : Nat} (hb : (b : Int) ≠ a) (j : Int) : u2 h a k v b j = h b j := by
  unfold u2
  rw [if_neg hb]
theorem u2_s {h : Int → Int → Int} {a k v j : Int} : u2 h a k v a j = if j = k then v else h a j := by
  unfold u2
  rw [if_pos rfl]
theorem ne_of_toNat {a : Int} {b : Nat} (h0 : 0 ≤ a) (h : b ≠ a.toNat) : (b : Int) ≠ a := by omega
theorem e_idx {x : Int} {q : Nat} (h0 : 0 ≤ w32 x) : q = (Int32.ofInt x).toNatClampNeg ↔ (q : Int) = w32 x := by
  rw [e_clamp]
  omega
section FRB
variable {base : Nat} {ad : Int → Nat} {z : Int → Int} {cA : Nat → ClassId} {D : va_G} {n0 mi : Nat} {p : Program} {l : Launch} {e : Env} {R : Room} {s : State} {m : MethodId} {args : Array Value} {below : List Frame} {meth : Method} {c : Code} {Q : State → Prop}
variable {pc : Nat} {ls : PL} {st : List PV} {h : PH} {g : PG}
theorem s_FO.K (F : FO base ad z cA D p s m args meth c mi) : va_K D vwCl (tysOf cA) s := F.2.2.2.2.2.1.1.1
theorem s_iaload {a i : Int} (F : FO base ad z cA D p s m args meth c mi) (hd : decode (mC mi) pc = .ok (.iaload, 1)) (ho : isO a 10 g.1 = true) (h0 : 0 ≤ w32 i) (h1 : w32 i < alen a) (k : WG base ad cA D n0 mi p l e R s m args below meth c Q (pc + 1, ls, .inl (h a (w32 i)) :: st, h, g)) : WG base ad cA D n0 mi p l e R s m args below meth c Q (pc, ls, .inl i :: .inr (.inr a) :: st, h, g) := fun H locs l9 hH hS hL => by
  have k2 := k H locs l9 hH hS hL
  refine va_iald F.1 F.2.1 (s_FO.K F) hH.2.2 a.toNat 0 (WS_at ho (cellE_I ho)) rfl (e_in h0 h1) hd ?_
  rw [e_clamp, Int.toNat_of_nonneg h0]
  exact k2
theorem s_caload {a i : Int} (F : FO base ad z cA D p s m args meth c mi) (hd : decode (mC mi) pc = .ok (.caload, 1)) (ho : isO a 12 g.1 = true) (h0 : 0 ≤ w32 i) (h1 : w32 i < alen a) (k : WG base ad cA D n0 mi p l e R s m args below meth c Q (pc + 1, ls, .inl (h a (w32 i)) :: st, h, g)) : WG base ad cA D n0 mi p l e R s m args below meth c Q (pc, ls, .inl i :: .inr (.inr a) :: st, h, g) := fun H locs l9 hH hS hL => by
  have k2 := k H locs l9 hH hS hL
  refine va_cald F.1 F.2.1 (s_FO.K F) hH.2.2 a.toNat 2 (WS_at ho (cellE_C ho)) rfl (e_in h0 h1) hd ?_
  rw [e_clamp, Int.toNat_of_nonneg h0]
  exact k2
theorem s_laload {a i : Int} (F : FO base ad z cA D p s m args meth c mi) (hd : decode (mC mi) pc = .ok (.laload, 1)) (ho : isO a 11 g.1 = true) (h0 : 0 ≤ w32 i) (h1 : w32 i < alen a) (k : WG base ad cA D n0 mi p l e R s m args below meth c Q (pc + 1, ls, .inr (.inl (h a (w32 i))) :: st, h, g)) : WG base ad cA D n0 mi p l e R s m args below meth c Q (pc, ls, .inl i :: .inr (.inr a) :: st, h, g) := fun H locs l9 hH hS hL => by
  have k2 := k H locs l9 hH hS hL
  refine va_lald F.1 F.2.1 (s_FO.K F) hH.2.2 a.toNat 1 (WS_at ho (cellE_J ho)) rfl (e_in h0 h1) hd ?_
  rw [e_clamp, Int.toNat_of_nonneg h0]
  exact k2
theorem s_ialoadR {a i : Int} (F : FO base ad z cA D p s m args meth c mi) (hd : decode (mC mi) pc = .ok (.iaload, 1)) (ho : roK a = 10) (h0 : 0 ≤ w32 i) (h1 : w32 i < roN z a) (k : WG base ad cA D n0 mi p l e R s m args below meth c Q (pc + 1, ls, .inl (roV z a (w32 i)) :: st, h, g)) : WG base ad cA D n0 mi p l e R s m args below meth c Q (pc, ls, .inl i :: .inr (.inr a) :: st, h, g) := fun H locs l9 hH hS hL => by
  have k2 := k H locs l9 hH hS hL
  refine va_ti F.1 F.2.1 (F.2.2.2.2.2.1.2.1.2.2.2.2.1 a ho) hS (e_in h0 (by omega)) rfl hd ?_
  rw [e_clamp, Int.toNat_of_nonneg h0]
  exact k2
theorem s_baloadR {a i : Int} (F : FO base ad z cA D p s m args meth c mi) (hd : decode (mC mi) pc = .ok (.baload, 1)) (ho : roK a = 17) (h0 : 0 ≤ w32 i) (h1 : w32 i < roN z a) (k : WG base ad cA D n0 mi p l e R s m args below meth c Q (pc + 1, ls, .inl (roV z a (w32 i)) :: st, h, g)) : WG base ad cA D n0 mi p l e R s m args below meth c Q (pc, ls, .inl i :: .inr (.inr a) :: st, h, g) := fun H locs l9 hH hS hL => by
  have k2 := k H locs l9 hH hS hL
  refine va_tb F.1 F.2.1 (F.2.2.2.2.2.1.2.1.2.2.2.2.2.1 a ho) hS (e_in h0 (by omega)) rfl hd ?_
  rw [e_clamp, Int.toNat_of_nonneg h0]
  exact k2
theorem rnv_ref {ad : Int → Nat} {x : Int} (h : 0 ≤ x) : va_rf (rnv ad x) = .ref (ad x) := by
  unfold rnv
  rw [if_neg (by omega)]
  rfl
theorem s_aaload {a i : Int} (F : FO base ad z cA D p s m args meth c mi) (hd : decode (mC mi) pc = .ok (.aaload, 1)) (ho : isQ a g.1 = true) (h0 : 0 ≤ w32 i) (h1 : w32 i < alen a) (hr : 0 ≤ g.2 a (w32 i)) (k : WG base ad cA D n0 mi p l e R s m args below meth c Q (pc + 1, ls, .inr (.inr (g.2 a (w32 i))) :: st, h, g)) : WG base ad cA D n0 mi p l e R s m args below meth c Q (pc, ls, .inl i :: .inr (.inr a) :: st, h, g) := fun H locs l9 hH hS hL => by
  have k2 := k H locs l9 hH hS hL
  unfold isQ at ho
  simp only [Bool.or_eq_true] at ho
  have e0 : ∀ f : Nat → Option Nat, f = (fun j : Nat => rnv ad (g.2 a j)) → va_rf (f (Int32.ofInt i).toNatClampNeg) = .ref (ad (g.2 a (w32 i))) := by
    intro f hf
    rw [hf, e_clamp]
    show va_rf (rnv ad (g.2 a ((w32 i).toNat : Int))) = _
    rw [Int.toNat_of_nonneg h0, rnv_ref hr]
  have key : ∀ (k9 : Nat), 13 ≤ k9 → k9 ≤ 16 → isO a k9 g.1 = true → ∀ ty : FieldType, ty.isReference = true → (tysOf cA)[k9 - 10]? = some (cA (k9 - 10), ty) → W p l e R s m args below meth c H locs (g.1 - n0) (sl g.1 - sl n0) Q (F0 m pc l9 (.int (Int32.ofInt i) :: .ref (ad a) :: st.map (mv ad))) := by
    intro k9 g1 g2 hk ty hty ht
    have hlt : (Int32.ofInt i).toNatClampNeg < alen a := by rw [e_clamp]; omega
    refine W.aald (v := .ref (ad (g.2 a (w32 i)))) (ty := ty) F.1 F.2.1 (hH.2.2 a.toNat _ (WS_at hk (cellE_R hk g1 g2))) (((s_FO.K F).2 (k9 - 10) _ ht).1 (alen a) (fun j => va_rf (rnv ad (g.2 a j)))) hty (fun q => by cases q) (by show ¬ (Int32.ofInt i < 0 ∨ (arrV _ _ _).slots.size ≤ _); rw [arrV_size]; exact e_in h0 h1) (by show (arrV _ _ _).slots[_]? = _; rw [arrV_read _ _ hlt]; exact congrArg some (e0 _ rfl)) rfl rfl hd k2
  rcases ho with ho | ho | ho | ho
  · exact key 13 (by decide) (by decide) ho _ rfl rfl
  · exact key 14 (by decide) (by decide) ho _ rfl rfl
  · exact key 15 (by decide) (by decide) ho _ rfl rfl
  · exact key 16 (by decide) (by decide) ho _ rfl rfl
theorem s_alenR {a : Int} (F : FO base ad z cA D p s m args meth c mi) (hd : decode (mC mi) pc = .ok (.arraylength, 1)) (ho : roK a = 10 ∨ roK a = 17) (h0 : 0 ≤ roN z a) (k : WG base ad cA D n0 mi p l e R s m args below meth c Q (pc + 1, ls, .inl (roN z a) :: st, h, g)) : WG base ad cA D n0 mi p l e R s m args below meth c Q (pc, ls, .inr (.inr a) :: st, h, g) := fun H locs l9 hH hS hL => by
  have k2 := k H locs l9 hH hS hL
  have e : Int32.ofNat (roN z a).toNat = Int32.ofInt (roN z a) := by rw [← Int32.ofInt_eq_ofNat, Int.toNat_of_nonneg h0]
  rcases ho with ho | ho
  · exact va_tlen F.1 F.2.1 (F.2.2.2.2.2.1.2.1.2.2.2.2.1 a ho) hS e hd k2
  · exact va_tlen F.1 F.2.1 (F.2.2.2.2.2.1.2.1.2.2.2.2.2.1 a ho) hS e hd k2
theorem s_alen {a : Int} {k9 : Nat} (F : FO base ad z cA D p s m args meth c mi) (hd : decode (mC mi) pc = .ok (.arraylength, 1)) (ho : isO a k9 g.1 = true) (h0 : 10 ≤ k9) (h1 : k9 ≤ 16) (k : WG base ad cA D n0 mi p l e R s m args below meth c Q (pc + 1, ls, .inl (alen a : Int) :: st, h, g)) : WG base ad cA D n0 mi p l e R s m args below meth c Q (pc, ls, .inr (.inr a) :: st, h, g) := fun H locs l9 hH hS hL => by
  have k2 := k H locs l9 hH hS hL
  have e : Int32.ofNat (alen a) = Int32.ofInt (alen a) := Int32.ofInt_eq_ofNat.symm
  rcases (show k9 = 10 ∨ k9 = 11 ∨ k9 = 12 ∨ k9 = 13 ∨ k9 = 14 ∨ k9 = 15 ∨ k9 = 16 by omega) with rfl | rfl | rfl | rfl | rfl | rfl | rfl
  · exact va_alen F.1 F.2.1 (s_FO.K F) hH.2.2 a.toNat 0 (WS_at ho (cellE_I ho)) rfl e hd k2
  · exact va_alen F.1 F.2.1 (s_FO.K F) hH.2.2 a.toNat 1 (WS_at ho (cellE_J ho)) rfl e hd k2
  · exact va_alen F.1 F.2.1 (s_FO.K F) hH.2.2 a.toNat 2 (WS_at ho (cellE_C ho)) rfl e hd k2
  · exact va_alen F.1 F.2.1 (s_FO.K F) hH.2.2 a.toNat 3 (WS_at ho (cellE_R ho (by decide) (by decide))) rfl e hd k2
  · exact va_alen F.1 F.2.1 (s_FO.K F) hH.2.2 a.toNat 4 (WS_at ho (cellE_R ho (by decide) (by decide))) rfl e hd k2
  · exact va_alen F.1 F.2.1 (s_FO.K F) hH.2.2 a.toNat 5 (WS_at ho (cellE_R ho (by decide) (by decide))) rfl e hd k2
  · exact va_alen F.1 F.2.1 (s_FO.K F) hH.2.2 a.toNat 6 (WS_at ho (cellE_R ho (by decide) (by decide))) rfl e hd k2
theorem s_iastore {a i v : Int} (F : FO base ad z cA D p s m args meth c mi) (hd : decode (mC mi) pc = .ok (.iastore, 1)) (ho : isO a 10 g.1 = true) (h0 : 0 ≤ w32 i) (h1 : w32 i < alen a)  (k : WG base ad cA D n0 mi p l e R s m args below meth c Q (pc + 1, ls, st, u2 h a (w32 i) v, g)) : WG base ad cA D n0 mi p l e R s m args below meth c Q (pc, ls, .inl v :: .inl i :: .inr (.inr a) :: st, h, g) := fun H locs l9 hH hS hL => by
  refine W.iast F.1 F.2.1 (hH.2.2 a.toNat _ (WS_at ho (cellE_I ho))) (((s_FO.K F).2 0 _ rfl).1 (alen a) (fun j => .int (Int32.ofInt (h a j)))) (fun q => by cases q) (by show ¬ (Int32.ofInt i < 0 ∨ (arrV _ _ _).slots.size ≤ _); rw [arrV_size]; exact e_in h0 h1) rfl rfl hd fun H1 e9 z9 oq => ?_
  have had : AdOK base ad := F.2.2.2.2.2.2.2.2.2.1
  have ea : ad ((a.toNat : Nat) : Int) = ad a := by rw [(isO_spec ho).2.2.1]
  refine k H1 _ l9 (HI_set had hH (a := a.toNat) (isO_spec ho).2.1 rfl (fun b _ hb => cellE_congr (fun j => u2_o (ne_of_toNat (isO_spec ho).1 hb) j) (fun _ => rfl)) ?_ z9 (by rw [ea]; exact oq)) (hS.put z9 oq (ad_A had ho hH.2.1)) hL
  rw [cellE_I ho, ea]
  show H1[ad a]? = some (vp_cell _ _)
  rw [e9]
  rw [vp_cell_i, vp_cell_i, arrV_store]
  congr 2
  funext q
  by_cases hq : q = (Int32.ofInt i).toNatClampNeg
  · refine (show updV _ _ _ q = _ from if_pos hq).trans (Eq.trans ?_ (congrArg (fun x => Value.int (Int32.ofInt x)) (u2_s.trans (if_pos ((e_idx h0).mp hq))).symm))
    rfl
  · exact (show updV _ _ _ q = _ from if_neg hq).trans (congrArg (fun x => Value.int (Int32.ofInt x)) (u2_s.trans (if_neg (fun h9 => hq ((e_idx h0).mpr h9)))).symm)
theorem s_lastore {a i v : Int} (F : FO base ad z cA D p s m args meth c mi) (hd : decode (mC mi) pc = .ok (.lastore, 1)) (ho : isO a 11 g.1 = true) (h0 : 0 ≤ w32 i) (h1 : w32 i < alen a)  (k : WG base ad cA D n0 mi p l e R s m args below meth c Q (pc + 1, ls, st, u2 h a (w32 i) v, g)) : WG base ad cA D n0 mi p l e R s m args below meth c Q (pc, ls, .inr (.inl v) :: .inl i :: .inr (.inr a) :: st, h, g) := fun H locs l9 hH hS hL => by
  refine W.last F.1 F.2.1 (hH.2.2 a.toNat _ (WS_at ho (cellE_J ho))) (((s_FO.K F).2 1 _ rfl).1 (alen a) (fun j => .long (Int64.ofInt (h a j)))) (fun q => by cases q) (by show ¬ (Int32.ofInt i < 0 ∨ (arrV _ _ _).slots.size ≤ _); rw [arrV_size]; exact e_in h0 h1) rfl rfl hd fun H1 e9 z9 oq => ?_
  have had : AdOK base ad := F.2.2.2.2.2.2.2.2.2.1
  have ea : ad ((a.toNat : Nat) : Int) = ad a := by rw [(isO_spec ho).2.2.1]
  refine k H1 _ l9 (HI_set had hH (a := a.toNat) (isO_spec ho).2.1 rfl (fun b _ hb => cellE_congr (fun j => u2_o (ne_of_toNat (isO_spec ho).1 hb) j) (fun _ => rfl)) ?_ z9 (by rw [ea]; exact oq)) (hS.put z9 oq (ad_A had ho hH.2.1)) hL
  rw [cellE_J ho, ea]
  show H1[ad a]? = some (vp_cell _ _)
  rw [e9]
  rw [vp_cell_l, vp_cell_l, arrV_store]
  congr 2
  funext q
  by_cases hq : q = (Int32.ofInt i).toNatClampNeg
  · refine (show updV _ _ _ q = _ from if_pos hq).trans (Eq.trans ?_ (congrArg (fun x => Value.long (Int64.ofInt x)) (u2_s.trans (if_pos ((e_idx h0).mp hq))).symm))
    rfl
  · exact (show updV _ _ _ q = _ from if_neg hq).trans (congrArg (fun x => Value.long (Int64.ofInt x)) (u2_s.trans (if_neg (fun h9 => hq ((e_idx h0).mpr h9)))).symm)
theorem s_castore {a i v : Int} (F : FO base ad z cA D p s m args meth c mi) (hd : decode (mC mi) pc = .ok (.castore, 1)) (ho : isO a 12 g.1 = true) (h0 : 0 ≤ w32 i) (h1 : w32 i < alen a) (hnc : narrow .char (.int (Int32.ofInt v)) = .int (Int32.ofInt v)) (k : WG base ad cA D n0 mi p l e R s m args below meth c Q (pc + 1, ls, st, u2 h a (w32 i) v, g)) : WG base ad cA D n0 mi p l e R s m args below meth c Q (pc, ls, .inl v :: .inl i :: .inr (.inr a) :: st, h, g) := fun H locs l9 hH hS hL => by
  refine W.cast F.1 F.2.1 (hH.2.2 a.toNat _ (WS_at ho (cellE_C ho))) (((s_FO.K F).2 2 _ rfl).1 (alen a) (fun j => .int (Int32.ofInt (h a j)))) (fun q => by cases q) (by show ¬ (Int32.ofInt i < 0 ∨ (arrV _ _ _).slots.size ≤ _); rw [arrV_size]; exact e_in h0 h1) rfl rfl hd fun H1 e9 z9 oq => ?_
  have had : AdOK base ad := F.2.2.2.2.2.2.2.2.2.1
  have ea : ad ((a.toNat : Nat) : Int) = ad a := by rw [(isO_spec ho).2.2.1]
  refine k H1 _ l9 (HI_set had hH (a := a.toNat) (isO_spec ho).2.1 rfl (fun b _ hb => cellE_congr (fun j => u2_o (ne_of_toNat (isO_spec ho).1 hb) j) (fun _ => rfl)) ?_ z9 (by rw [ea]; exact oq)) (hS.put z9 oq (ad_A had ho hH.2.1)) hL
  rw [cellE_C ho, ea]
  show H1[ad a]? = some (vp_cell _ _)
  rw [e9]
  rw [vp_cell_i, vp_cell_i, arrV_store]
  congr 2
  funext q
  by_cases hq : q = (Int32.ofInt i).toNatClampNeg
  · refine (show updV _ _ _ q = _ from if_pos hq).trans (Eq.trans ?_ (congrArg (fun x => Value.int (Int32.ofInt x)) (u2_s.trans (if_pos ((e_idx h0).mp hq))).symm))
    exact hnc
  · exact (show updV _ _ _ q = _ from if_neg hq).trans (congrArg (fun x => Value.int (Int32.ofInt x)) (u2_s.trans (if_neg (fun h9 => hq ((e_idx h0).mpr h9)))).symm)

end FRB
end
section
/-! ===== a frame of method mi at a place of the plain machine: fields ===== -/
def tyOf (c k : Nat) : FieldType := (parseFieldDescriptor ((vwCl.getD c (RX0, TX0, 0)).2.1 k).2.2.1).getD .int
def clOk (c : Nat) : Bool := match vwCl[c]? with
  | some r => (List.range r.2.2).all (fun k => decide ((r.2.1 k).1 = r.1) && (decide (parseFieldDescriptor (r.2.1 k).2.2.1 = some (tyOf c k)) && (decide ((r.2.1 k).2.2.2 = decide (fty c k = 1)) && (decide (fty c k = 0 → tyOf c k = .int ∨ tyOf c k = .boolean) && (decide (¬ fty c k = 0 → (tyOf c k).isReference = true) && (decide (fty c k ≤ 2) && (List.range r.2.2).all (fun j => decide (j = k ∨ (r.2.1 j).2.1 ≠ (r.2.1 k).2.1))))))))
  | none => false
theorem cl_all : (List.range 9).all clOk = true := by decide +kernel
theorem uw_all : (List.range 9).all (fun c => match vwCl[c]? with
  | some r => (u_ws r.1 r.2.1 r.2.2).all (fun w => decide (w ∈ tables_1) && goodWord w)
  | none => false) = true := by decide +kernel
theorem cl_get {c : Nat} (hc : c < 9) : ∃ r : vw_C, vwCl[c]? = some r ∧ vwCl.getD c (RX0, TX0, 0) = r ∧ (∀ w ∈ u_ws r.1 r.2.1 r.2.2, w ∈ WB) ∧ (∀ k, k < r.2.2 → (r.2.1 k).1 = r.1 ∧ parseFieldDescriptor (r.2.1 k).2.2.1 = some (tyOf c k) ∧ (r.2.1 k).2.2.2 = decide (fty c k = 1) ∧ (fty c k = 0 → tyOf c k = .int ∨ tyOf c k = .boolean) ∧ (¬ fty c k = 0 → (tyOf c k).isReference = true) ∧ fty c k ≤ 2) ∧ ∀ a, a < r.2.2 → ∀ b, b < r.2.2 → a ≠ b → (r.2.1 a).2.1 ≠ (r.2.1 b).2.1 := by
  have h1 := List.all_eq_true.mp cl_all c (List.mem_range.mpr hc)
  have h2 := List.all_eq_true.mp uw_all c (List.mem_range.mpr hc)
  unfold clOk at h1
  cases hr : vwCl[c]? with
  | none => rw [hr] at h1; cases h1
  | some r =>
    rw [hr] at h1 h2
    simp only [List.all_eq_true, Bool.and_eq_true, decide_eq_true_eq, List.mem_range] at h1 h2
    refine ⟨r, rfl, by rw [List.getD_eq_getElem?_getD, hr]; rfl, fun w hw => ?_, fun k hk => ?_, fun a ha b hb hab => ?_⟩
    · obtain ⟨q1, q2⟩ := h2 w hw
      exact List.mem_filter.mpr ⟨List.mem_append_right _ q1, q2⟩
    · obtain ⟨q1, q2, q3, q4, q5, q6, -⟩ := h1 k hk
      exact ⟨q1, q2, q3, q4, q5, q6⟩
    · rcases (h1 b hb).2.2.2.2.2.2 a ha with q | q
      · exact absurd q hab
      · exact q
theorem fldT_spec {o i ci k b : Nat} (h : fldT o i = some (ci, k, b)) : ∃ e ∈ fldL, e.1 = o ∧ e.2.1 = i ∧ e.2.2.1 = ci ∧ e.2.2.2.1 = k ∧ e.2.2.2.2.1 = b ∧ ci < 9 ∧ k < (vwCl.getD ci (RX0, TX0, 0)).2.2 ∧ lw_tbl[e.2.2.2.2.2]? = some (if b = 1 then isNestF e else isPlainF e) := by
  unfold fldT at h
  cases hf : fldL.find? (fun e => e.1 == o && e.2.1 == i) with
  | none => rw [hf] at h; cases h
  | some e =>
    rw [hf] at h
    cases h
    have h1 := List.mem_of_find?_eq_some hf
    have h2 := List.find?_some hf
    simp only [Bool.and_eq_true, beq_iff_eq] at h2
    have h3 := List.all_eq_true.mp fld_all e h1
    simp only [Bool.and_eq_true, decide_eq_true_eq] at h3
    exact ⟨e, h1, h2.1, h2.2, rfl, rfl, rfl, h3.2.1, h3.2.2.1, h3.1⟩
theorem slotV_get {ad : Int → Nat} {h : PH} {r : Int → Int → Int} {ci k n : Nat} {a : Int} (hk : k < n) : ((List.range n).map (fun j => slotV ad h r ci j a))[k]? = some (slotV ad h r ci k a) := by
  rw [List.getElem?_map, List.getElem?_range hk]
  rfl
theorem alen_ok : (List.range nCell).all (fun a => decide ((shL.getD a (99, 0)).1 < 9 → (shL.getD a (99, 0)).2 = (vwCl.getD (shL.getD a (99, 0)).1 (RX0, TX0, 0)).2.2)) = true := by decide +kernel
theorem alen_cl {a : Int} {ci n : Nat} (ho : isO a ci n = true) (hc : ci < 9) (hn : n ≤ nCell) : alen a = (vwCl.getD ci (RX0, TX0, 0)).2.2 := by
  obtain ⟨e1, e2⟩ := isO_sh ho (by omega)
  have h1 := List.all_eq_true.mp alen_ok a.toNat (List.mem_range.mpr (by have := (isO_spec ho).2.1; omega))
  simp only [decide_eq_true_eq] at h1
  rw [e1, e2] at h1
  exact h1 hc
theorem own_all : (List.range 9).all (fun c => decide (oN c = (vwCl.getD c (RX0, TX0, 0)).1)) = true := by decide +kernel
theorem own_cl {c : Nat} (hc : c < 9) : oN c = (vwCl.getD c (RX0, TX0, 0)).1 := by
  have h1 := List.all_eq_true.mp own_all c (List.mem_range.mpr hc)
  simpa using h1
theorem nest_all : fldL.all (fun e => decide (e.2.2.2.2.1 = 1 → fty e.2.2.1 e.2.2.2.1 = 1 → ¬ e.1 = e.2.2.1)) = true := by decide +kernel
theorem nest_fin (e : Nat × Nat × Nat × Nat × Nat × Nat) (he : e ∈ fldL) (h1 : e.2.2.2.2.1 = 1) (h2 : fty e.2.2.1 e.2.2.2.1 = 1) (h3 : e.1 = e.2.2.1) : False := by
  have h := List.all_eq_true.mp nest_all e he
  simp only [decide_eq_true_eq] at h
  exact h h1 h2 h3
section FRC
variable {base : Nat} {ad : Int → Nat} {z : Int → Int} {cA : Nat → ClassId} {D : va_G} {n0 mi : Nat} {p : Program} {l : Launch} {e : Env} {R : Room} {s : State} {m : MethodId} {args : Array Value} {below : List Frame} {meth : Method} {c : Code} {Q : State → Prop}
variable {pc : Nat} {ls : PL} {st : List PV} {h : PH} {g : PG}
theorem s_get {a : Int} {i ci k b : Nat} {v : PV} (F : FO base ad z cA D p s m args meth c mi) (hd : decode (mC mi) pc = .ok (.getfield i, 3)) (hf : fldT (mO mi) i = some (ci, k, b)) (ho : isO a ci g.1 = true) (hv : slotV ad h g.2 ci k a = mv ad v) (kk : WG base ad cA D n0 mi p l e R s m args below meth c Q (pc + 3, ls, v :: st, h, g)) : WG base ad cA D n0 mi p l e R s m args below meth c Q (pc, ls, .inr (.inr a) :: st, h, g) := fun H locs l9 hH hS hL => by
  have k2 := kk H locs l9 hH hS hL
  obtain ⟨e9, he, e1, e2, e3, e4, e5, hci, hk, hw⟩ := fldT_spec hf
  obtain ⟨r, hr, hrd, hin, hfl, -⟩ := cl_get hci
  rw [hrd] at hk
  have hat := WS_at (ad := ad) (cA := cA) (h := h) (g := g) ho (cellE_O ho hci)
  have hal : alen a = r.2.2 := by rw [alen_cl ho hci hH.2.1, hrd]
  have hsv : ((List.range (alen a)).map (fun j => slotV ad h g.2 ci j a))[k]? = some (mv ad v) := by rw [slotV_get (by omega), hv]
  obtain ⟨d1, d2, -⟩ := hfl k hk
  by_cases hb : b = 1
  · have hl : (Cond.fieldLinkNest (oN (mO mi)) i r.1 (r.2.1 k).2.1 (r.2.1 k).2.2.1 RX7).before args s = true := by
      have h9 := F.2.2.2.2.2.1.1.2.1 e9 he (e5.trans hb)
      have h10 := va_Nw.use (A := args) rfl h9
      unfold isNestF at h10
      rw [e1, e2, e3, e4, hrd] at h10
      exact h10
    exact va_getN F.1 F.2.1 (T := r.2.1) F.2.2.2.2.1 hin F.2.2.2.1 (s_FO.K F) hH.2.2 a.toNat hat hr k hk hl (fun x hx => by rw [d1] at hx; exact hx) hsv hd k2
  · have hl : (Cond.fieldLink (oN (mO mi)) i r.1 (r.2.1 k).2.1 (r.2.1 k).2.2.1).before args s = true := by
      rw [if_neg hb] at hw
      have h10 := F.2.2.2.2.1 _ (WB_in hw rfl)
      unfold isPlainF at h10
      rw [e1, e2, e3, e4, hrd] at h10
      exact h10
    exact va_get F.1 F.2.1 (T := r.2.1) F.2.2.2.2.1 hin F.2.2.2.1 (s_FO.K F) hH.2.2 a.toNat hat hr k hk hl (fun x hx => by rw [d1] at hx; exact hx) hsv hd k2
/-- behind a store of a field -/
theorem HI_fld {H H1 : Heap} {h' : PH} {g' : PG} {a : Int} {ci k : Nat} {v : PV} {r : vw_C} (had : AdOK base ad) (hH : HI base ad cA D H h g) (ho : isO a ci g.1 = true) (hci : ci < 9) (hn : g'.1 = g.1) (hw1 : ∀ b : Int, b ≠ a → ∀ j, h' b j = h b j) (hw2 : ∀ b : Int, b ≠ a → ∀ j, g'.2 b j = g.2 b j)
    (hr : vwCl[ci]? = some r) (hk : k < r.2.2) (hal : alen a = r.2.2) (hs1 : slotV ad h' g'.2 ci k a = mv ad v) (hs2 : ∀ j, j ≠ k → slotV ad h' g'.2 ci j a = slotV ad h g.2 ci j a)
    (hob : t_OB (ad a) (D.1 ci) r.2.2 (D.2 ci) H1 (vp_V (((List.range (alen a)).map (fun j => slotV ad h g.2 ci j a)).set k (mv ad v)))) (z9 : H1.size = H.size) (oq : ∀ q : Nat, q ≠ ad a → H1[q]? = H[q]?) : HI base ad cA D H1 h' g' := by
  have ea : ad ((a.toNat : Nat) : Int) = ad a := by rw [(isO_spec ho).2.2.1]
  have ho' : isO a ci g'.1 = true := by rw [hn]; exact ho
  refine HI_set had hH (a := a.toNat) (isO_spec ho).2.1 hn (fun b _ hb => cellE_congr (fun j => hw1 b (ne_of_toNat (isO_spec ho).1 hb) j) (fun j => hw2 b (ne_of_toNat (isO_spec ho).1 hb) j)) ?_ z9 (by rw [ea]; exact oq)
  rw [cellE_O ho' hci, ea]
  refine ⟨r, hr, ?_⟩
  have e0 : (List.range (alen a)).map (fun j => slotV ad h' g'.2 ci j a) = ((List.range (alen a)).map (fun j => slotV ad h g.2 ci j a)).set k (mv ad v) := by
    apply List.ext_getElem?
    intro j
    by_cases hj : j < alen a
    · rw [slotV_get hj]
      by_cases q : k = j
      · subst q
        rw [List.getElem?_set_self (by simpa using hj), hs1]
      · rw [List.getElem?_set_ne q, slotV_get hj, hs2 j (fun q2 => q q2.symm)]
    · rw [List.getElem?_eq_none (by simpa using Nat.le_of_not_lt hj), List.getElem?_eq_none (by simpa using Nat.le_of_not_lt hj)]
  show t_OB (ad a) (D.1 ci) r.2.2 (D.2 ci) H1 (vp_V _)
  rw [e0]
  exact hob
theorem s_put {a : Int} {i ci k b : Nat} {v : PV} {h' : PH} {g' : PG} (F : FO base ad z cA D p s m args meth c mi) (hd : decode (mC mi) pc = .ok (.putfield i, 3)) (hf : fldT (mO mi) i = some (ci, k, b)) (ho : isO a ci g.1 = true) (hn : g'.1 = g.1) (hw1 : ∀ b : Int, b ≠ a → ∀ j, h' b j = h b j) (hw2 : ∀ b : Int, b ≠ a → ∀ j, g'.2 b j = g.2 b j)
    (hs1 : slotV ad h' g'.2 ci k a = mv ad v) (hs2 : ∀ j, j ≠ k → slotV ad h' g'.2 ci j a = slotV ad h g.2 ci j a) (hnar : narrow (tyOf ci k) (mv ad v) = mv ad v) (hfit : fits (tyOf ci k) (mv ad v) = true) (hini : fty ci k = 1 → mK mi = 2 ∧ mO mi = ci)
    (kk : WG base ad cA D n0 mi p l e R s m args below meth c Q (pc + 3, ls, st, h', g')) : WG base ad cA D n0 mi p l e R s m args below meth c Q (pc, ls, v :: .inr (.inr a) :: st, h, g) := fun H locs l9 hH hS hL => by
  obtain ⟨e9, he, e1, e2, e3, e4, e5, hci, hk, hw⟩ := fldT_spec hf
  obtain ⟨r, hr, hrd, hin, hfl, hnm⟩ := cl_get hci
  rw [hrd] at hk
  have hat := WS_at (ad := ad) (cA := cA) (h := h) (g := g) ho (cellE_O ho hci)
  have hal : alen a = r.2.2 := by rw [alen_cl ho hci hH.2.1, hrd]
  obtain ⟨d1, d2, d3, -⟩ := hfl k hk
  have hK := s_FO.K F
  have had : AdOK base ad := F.2.2.2.2.2.2.2.2.2.1
  have hap := va_apart (own := oN (mO mi)) F.2.2.2.2.1 hin (tyOf ci) (fun k hk => (hfl k hk).2.1) hnm hK hr
  obtain ⟨r', h1, cell, q1, q2, q3, q4⟩ := hH.2.2 a.toNat _ hat
  have hrr : r' = r := Option.some.inj (h1.symm.trans hr)
  subst hrr
  obtain ⟨hS9, hfc, kC, hkC, hkind⟩ := hK.1 ci _ hr
  obtain ⟨cf, kf, fi, f, hi, hsl⟩ := hS9 k hk
  have hlay := F.2.2.2.2.1 _ (hin _ (u_in_lay hk))
  unfold u_lay at hlay
  have hst := (u_facts hfc hkC (u_lays F.2.2.2.2.1 hin hk) hi).1
  have hll : k < ((List.range (alen a)).map (fun j => slotV ad h g.2 ci j a)).length := by simpa using (by omega : k < alen a)
  have fin : ∀ H1 : Heap, H1[ad a]? = some (cell.setSlot (D.2 ci k) (mv ad v)) → H1.size = H.size → (∀ q : Nat, q ≠ ad a → H1[q]? = H[q]?) → W p l e R s m args below meth c H1 (locs ++ [⟨ad a, D.2 ci k⟩]) (g.1 - n0) (sl g.1 - sl n0) Q (F0 m (pc + 3) l9 (st.map (mv ad))) := by
    intro H1 w1 w2 w3
    have k2 := kk H1 (locs ++ [⟨ad a, D.2 ci k⟩]) l9 (HI_fld had hH ho hci hn hw1 hw2 hr hk hal hs1 hs2 (t_OB.to (V := updV (vp_V _) k (mv ad v)) ⟨_, w1, q2, q3, t_set q4 hap hk (mv ad v)⟩ (fun j _ => vp_updV_set hll (mv ad v) j)) w2 w3) (hS.put w2 w3 (ad_A had ho hH.2.1)) hL
    rw [show ((pc + 3, ls, st, h', g') : Cfg).2.2.2.2.1 = g.1 from hn] at k2
    exact k2
  by_cases hfin : fty ci k = 1
  · obtain ⟨i1, i2⟩ := hini hfin
    have hf3 : (r'.2.1 k).2.2.2 = true := by rw [d3]; simpa using hfin
    rw [if_pos hf3] at hlay
    have hb : ¬ b = 1 := fun hb1 => nest_fin e9 he (e5.trans hb1) (by rw [e3, e4]; exact hfin) (by rw [e1, e3]; exact i2)
    have hl : (Cond.fieldLink (oN (mO mi)) i r'.1 (r'.2.1 k).2.1 (r'.2.1 k).2.2.1).before args s = true := by
      rw [if_neg hb] at hw
      have h10 := F.2.2.2.2.1 _ (WB_in hw rfl)
      unfold isPlainF at h10
      rw [e1, e2, e3, e4, hrd] at h10
      exact h10
    have hcf : m.cls = cf := by
      obtain ⟨_, _, c', _, _, _, -, -, hf', -, -, -, hown2, -⟩ := Cond.laysFinal_spec hlay
      have g1 : c' = cf := by have := hi.symm.trans hf'; simp at this; exact this.1.symm
      rw [d1] at hown2
      rw [← g1]
      have g2 : oN (mO mi) = r'.1 := by rw [i2, ← hrd]; exact own_cl hci
      exact Option.some.inj (F.2.2.2.1.symm.trans (by rw [g2]; exact hown2))
    have h6 := u_fits hfc hkC hkind (Or.inr hlay) hi d2 hnar hfit
    refine W.putFinK F.1 F.2.1 F.2.2.2.1 hl (by rw [d1] at hi; exact hi) hst hcf (F.2.2.2.2.2.2.2.2.1 i1) (by rw [q2]; exact h6) q1 q3 (by rw [hsl]; exact k2_hasslot (q4 k hk)) rfl rfl hd fun H' w1 w2 w3 => ?_
    rw [hsl] at w1 ⊢
    exact fin H' w1 w2 w3
  · have hf3 : (r'.2.1 k).2.2.2 = false := by rw [d3]; simpa using hfin
    rw [if_neg (by rw [hf3]; decide)] at hlay
    have h6 := u_store hfc hkC hkind hlay hi d2 hnar hfit
    by_cases hb : b = 1
    · have hl : (Cond.fieldLinkNest (oN (mO mi)) i r'.1 (r'.2.1 k).2.1 (r'.2.1 k).2.2.1 RX7).before args s = true := by
        have h9 := F.2.2.2.2.2.1.1.2.1 e9 he (e5.trans hb)
        have h10 := va_Nw.use (A := args) rfl h9
        unfold isNestF at h10
        rw [e1, e2, e3, e4, hrd] at h10
        exact h10
      refine va_WputK F.1 F.2.1 (f := f) F.2.2.2.1 hl (by rw [d1] at hi; exact hi) hst (by rw [q2]; exact h6) q1 q3 (by rw [hsl]; exact k2_hasslot (q4 k hk)) rfl rfl hd fun H' w1 w2 w3 => ?_
      rw [hsl] at w1 ⊢
      exact fin H' w1 w2 w3
    · have hl : (Cond.fieldLink (oN (mO mi)) i r'.1 (r'.2.1 k).2.1 (r'.2.1 k).2.2.1).before args s = true := by
        rw [if_neg hb] at hw
        have h10 := F.2.2.2.2.1 _ (WB_in hw rfl)
        unfold isPlainF at h10
        rw [e1, e2, e3, e4, hrd] at h10
        exact h10
      refine W.putK F.1 F.2.1 (f := f) ⟨F.2.2.2.1, hl, ⟨_, _, _, by rw [d1] at hi; exact hi⟩, hst⟩ (by rw [q2]; exact h6) q1 q3 (by rw [hsl]; exact k2_hasslot (q4 k hk)) rfl rfl hd fun H' w1 w2 w3 => ?_
      rw [hsl] at w1 ⊢
      exact fin H' w1 w2 w3

end FRC
end
section
/-! ===== a frame of method mi at a place of the plain machine: statics, constants, rows of objects, new cells ===== -/
theorem sl_succ {n : Nat} (h : n < nCell) : sl (n + 1) = sl n + (shL.getD n (99, 0)).2 := by
  have hl : n < shL.length := h
  unfold sl
  rw [List.take_add_one, List.map_append, List.sum_append, List.getD_eq_getElem?_getD, List.getElem?_eq_getElem hl]
  simp
theorem sl_mono {a b : Nat} (h : a ≤ b) (hb : b ≤ nCell) : sl a ≤ sl b := by
  induction h with
  | refl => exact Nat.le_refl _
  | step h ih =>
    rename_i b
    have := sl_succ (n := b) (by omega)
    have := ih (by omega)
    show sl a ≤ sl (b + 1)
    omega
theorem HI_grow {base : Nat} {ad : Int → Nat} (had : AdOK base ad) {cA : Nat → ClassId} {D : va_G} {H H1 : Heap} {h h' : PH} {g g' : PG} (hH : HI base ad cA D H h g) (hz : H1.size = base + g'.1) (hn : g'.1 ≤ nCell) (hle : g.1 ≤ g'.1) (old : ∀ q : Nat, q < H.size → H1[q]? = H[q]?)
    (hw : ∀ b, b < g.1 → cellE ad cA h' g'.2 b = cellE ad cA h g.2 b) (hnew : ∀ b : Nat, g.1 ≤ b → b < g'.1 → va_at D vwCl (ad b, cellE ad cA h' g'.2 b) H1) : HI base ad cA D H1 h' g' := by
  refine ⟨hz, hn, fun k q hk => ?_⟩
  have hl : k < g'.1 := by
    have := (List.getElem?_eq_some_iff.mp hk).1
    simpa [WS] using this
  rw [WS_get hl] at hk
  cases hk
  by_cases hb : k < g.1
  · rw [hw k hb]
    refine (hH.2.2 k _ (WS_get hb)).kept (old _ ?_)
    have := nCell_le
    show ad k < H.size
    rw [hH.1, had k (by omega) (by omega)]
    omega
  · exact hnew k (by omega) hl
theorem S_grow {A : Nat → Prop} {H0 H H1 : Heap} {locs : List Loc} (hS : va_S A H0 H locs) (hz : H.size ≤ H1.size) (old : ∀ q : Nat, q < H.size → H1[q]? = H[q]?) : va_S A H0 H1 locs :=
  ⟨Nat.le_trans hS.1 hz, fun q h1 h2 => (old q (Nat.lt_of_lt_of_le h1 hS.1)).trans (hS.2.1 q h1 h2), hS.2.2⟩
theorem wipe_o {h : Int → Int → Int} {a : Int} {f : Int → Int} {b : Nat} (hb : (b : Int) ≠ a) (j : Int) : wipe h a f b j = h b j := by
  unfold wipe
  rw [if_neg hb]
theorem wipe_s {h : Int → Int → Int} {a : Int} {f : Int → Int} (j : Int) : wipe h a f a j = f j := by
  unfold wipe
  rw [if_pos rfl]
theorem cstT_spec {o i : Nat} {v : Int} (h : cstT o i = some v) : Cond.constant (oN o) i (Int32.ofInt v) ∈ WB := by
  unfold cstT at h
  cases hf : cstL.find? (fun e => e.1 == o && e.2.1 == i) with
  | none => rw [hf] at h; cases h
  | some e =>
    rw [hf] at h
    cases h
    have h1 := List.mem_of_find?_eq_some hf
    have h2 := List.find?_some hf
    simp only [Bool.and_eq_true, beq_iff_eq] at h2
    have h3 := List.all_eq_true.mp cst_all e h1
    simp only [decide_eq_true_eq] at h3
    rw [h2.1, h2.2] at h3
    exact WB_in h3 rfl
theorem clgT_spec {o i : Nat} {v : Int} (h : clgT o i = some v) : Cond.constantLong (oN o) i (Int64.ofInt v) ∈ WB := by
  unfold clgT at h
  cases hf : clgL.find? (fun e => e.1 == o && e.2.1 == i) with
  | none => rw [hf] at h; cases h
  | some e =>
    rw [hf] at h
    cases h
    have h1 := List.mem_of_find?_eq_some hf
    have h2 := List.find?_some hf
    simp only [Bool.and_eq_true, beq_iff_eq] at h2
    have h3 := List.all_eq_true.mp clg_all e h1
    simp only [decide_eq_true_eq] at h3
    rw [h2.1, h2.2] at h3
    exact WB_in h3 rfl
theorem strT_spec {o i q : Nat} (h : strT o i = some q) : ∃ e, strL[q]? = some e ∧ e.1 = o ∧ e.2.1 = i := by
  unfold strT at h
  obtain ⟨hlt, hp, -⟩ := List.findIdx?_eq_some_iff_getElem.mp h
  simp only [Bool.and_eq_true, beq_iff_eq] at hp
  exact ⟨_, List.getElem?_eq_getElem hlt, hp.1, hp.2⟩
theorem cls_all : clsL.all (fun e => decide (lw_tbl[e.2.2.2]? = some (.classLink (oN e.1) e.2.1 (if e.2.2.1 = 16 then "[[I" else (vwCl.getD e.2.2.1 (RX0, TX0, 0)).1)))) = true := by decide +kernel
theorem clsT_spec {o i ci : Nat} (h : clsT o i = some ci) : Cond.classLink (oN o) i (if ci = 16 then "[[I" else (vwCl.getD ci (RX0, TX0, 0)).1) ∈ WB := by
  unfold clsT at h
  cases hf : clsL.find? (fun e => e.1 == o && e.2.1 == i) with
  | none => rw [hf] at h; cases h
  | some e =>
    rw [hf] at h
    cases h
    have h1 := List.mem_of_find?_eq_some hf
    have h2 := List.find?_some hf
    simp only [Bool.and_eq_true, beq_iff_eq] at h2
    have h3 := List.all_eq_true.mp cls_all e h1
    simp only [decide_eq_true_eq] at h3
    rw [h2.1, h2.2] at h3
    exact WB_in h3 rfl
theorem ins_all : (List.range 9).all (fun c => decide (lw_tbl[instP.getD c 0]? = some (.instantiable (vwCl.getD c (RX0, TX0, 0)).1 (vwCl.getD c (RX0, TX0, 0)).2.2)) && decide (lw_tbl[initP.getD c 0]? = some (.initialized (vwCl.getD c (RX0, TX0, 0)).1))) = true := by decide +kernel
theorem ins_get {ci : Nat} (hc : ci < 9) {r : vw_C} (hr : vwCl.getD ci (RX0, TX0, 0) = r) : Cond.instantiable r.1 r.2.2 ∈ WB ∧ Cond.initialized r.1 ∈ WB := by
  have h := List.all_eq_true.mp ins_all ci (List.mem_range.mpr hc)
  simp only [Bool.and_eq_true, decide_eq_true_eq, hr] at h
  exact ⟨WB_in h.1 rfl, WB_in h.2 rfl⟩
theorem d0_all : (List.range 9).all (fun c => (List.range (vwCl.getD c (RX0, TX0, 0)).2.2).all (fun k => decide (defaultValue (tyOf c k) = if fty c k = 0 then .int 0 else .null))) = true := by decide +kernel
theorem vr_out (c : ClassId) (N h0 : Nat) : ∀ i : Nat, Jvm.Free.Multi.outerC c N h0 i = arrV c N (fun j => va_rf (if j < i then some (h0 + 1 + j) else none))
  | 0 => by
    show ({ cls := c, slots := Array.replicate N .null, vm := .none } : Cell) = _
    rw [arrV_new]
    refine congrArg (arrV c N) (funext fun j => ?_)
    simp [va_rf]
  | i + 1 => by
    show (Jvm.Free.Multi.outerC c N h0 i).setSlot i (.ref (h0 + 1 + i)) = _
    rw [vr_out c N h0 i, arrV_store]
    refine congrArg (arrV c N) (funext fun j => ?_)
    by_cases e : j = i
    · subst e
      simp [updV, va_rf]
    · by_cases h : j < i
      · simp [updV, e, h, Nat.lt_succ_of_lt h]
      · simp [updV, e, h, show ¬ j < i + 1 by omega]
section FRD
variable {base : Nat} {ad : Int → Nat} {z : Int → Int} {cA : Nat → ClassId} {D : va_G} {n0 mi : Nat} {p : Program} {l : Launch} {e : Env} {R : Room} {s : State} {m : MethodId} {args : Array Value} {below : List Frame} {meth : Method} {c : Code} {Q : State → Prop}
variable {pc : Nat} {ls : PL} {st : List PV} {h : PH} {g : PG}
theorem s_ldc {i : Nat} {v : Int} (F : FO base ad z cA D p s m args meth c mi) (hd : decode (mC mi) pc = .ok (.ldc i, 2)) (hc : cstT (mO mi) i = some v) (k : WG base ad cA D n0 mi p l e R s m args below meth c Q (pc + 2, ls, .inl v :: st, h, g)) : WG base ad cA D n0 mi p l e R s m args below meth c Q (pc, ls, st, h, g) := fun H locs l9 hH hS hL =>
  lv_ldc F.1 F.2.1 F.2.2.2.1 (F.2.2.2.2.1 _ (cstT_spec hc)) hd (k H locs l9 hH hS hL)
theorem s_ldcw {i : Nat} {v : Int} (F : FO base ad z cA D p s m args meth c mi) (hd : decode (mC mi) pc = .ok (.ldc_w i, 3)) (hc : cstT (mO mi) i = some v) (k : WG base ad cA D n0 mi p l e R s m args below meth c Q (pc + 3, ls, .inl v :: st, h, g)) : WG base ad cA D n0 mi p l e R s m args below meth c Q (pc, ls, st, h, g) := fun H locs l9 hH hS hL =>
  lv_ldcw F.1 F.2.1 F.2.2.2.1 (F.2.2.2.2.1 _ (cstT_spec hc)) hd (k H locs l9 hH hS hL)
theorem s_ldc2 {i : Nat} {v : Int} (F : FO base ad z cA D p s m args meth c mi) (hd : decode (mC mi) pc = .ok (.ldc2_w i, 3)) (hc : clgT (mO mi) i = some v) (k : WG base ad cA D n0 mi p l e R s m args below meth c Q (pc + 3, ls, .inr (.inl v) :: st, h, g)) : WG base ad cA D n0 mi p l e R s m args below meth c Q (pc, ls, st, h, g) := fun H locs l9 hH hS hL =>
  lv_ldc2 F.1 F.2.1 F.2.2.2.1 (F.2.2.2.2.1 _ (clgT_spec hc)) hd (k H locs l9 hH hS hL)
theorem s_ldcS {i q : Nat} (F : FO base ad z cA D p s m args meth c mi) (hd : decode (mC mi) pc = .ok (.ldc i, 2)) (hc : strT (mO mi) i = some q) (k : WG base ad cA D n0 mi p l e R s m args below meth c Q (pc + 2, ls, .inr (.inr (1010 + (q : Int))) :: st, h, g)) : WG base ad cA D n0 mi p l e R s m args below meth c Q (pc, ls, st, h, g) := fun H locs l9 hH hS hL => by
  obtain ⟨e9, h1, h2, h3⟩ := strT_spec hc
  have hR := F.2.2.2.2.2.1.2.2 q e9 h1
  rw [h2, h3] at hR
  exact va_ldcS F.1 F.2.1 F.2.2.2.1 hR hd (k H locs l9 hH hS hL)
theorem s_kindAbove (F : FO base ad z cA D p s m args meth c mi) (hm : mO mi = 1) (hd : decode (mC mi) pc = .ok (.getstatic 60, 3)) (k : WG base ad cA D n0 mi p l e R s m args below meth c Q (pc + 3, ls, .inr (.inr 1000) :: st, h, g)) : WG base ad cA D n0 mi p l e R s m args below meth c Q (pc, ls, st, h, g) := fun H locs l9 hH hS hL => by
  have ho := F.2.2.2.1
  rw [hm] at ho
  exact va_getsN F.1 F.2.1 F.2.2.2.2.2.1.2.1.1 hS ho (va_Nw.use (A := args) rfl F.2.2.2.2.2.1.1.2.2.2.1) (fun _ hx => hx) hd (k H locs l9 hH hS hL)
theorem s_numbersBehind (F : FO base ad z cA D p s m args meth c mi) (hm : mO mi = 6) (hd : decode (mC mi) pc = .ok (.getstatic 49, 3)) (k : WG base ad cA D n0 mi p l e R s m args below meth c Q (pc + 3, ls, .inr (.inr 1001) :: st, h, g)) : WG base ad cA D n0 mi p l e R s m args below meth c Q (pc, ls, st, h, g) := fun H locs l9 hH hS hL => by
  have ho := F.2.2.2.1
  rw [hm] at ho
  exact va_getsN F.1 F.2.1 F.2.2.2.2.2.1.2.1.2.1 hS ho (va_Nw.use (A := args) rfl F.2.2.2.2.2.1.1.2.2.2.2.1) (fun _ hx => hx) hd (k H locs l9 hH hS hL)
theorem s_compact (F : FO base ad z cA D p s m args meth c mi) (hm : mO mi = 12) (hd : decode (mC mi) pc = .ok (.getstatic 38, 3)) (k : WG base ad cA D n0 mi p l e R s m args below meth c Q (pc + 3, ls, .inl 1 :: st, h, g)) : WG base ad cA D n0 mi p l e R s m args below meth c Q (pc, ls, st, h, g) := fun H locs l9 hH hS hL => by
  have ho := F.2.2.2.1
  rw [hm] at ho
  exact va_gets F.1 F.2.1 F.2.2.2.2.2.1.2.1.2.2.1 hS ho (F.2.2.2.2.1 _ (WB_in (i := pw_csLink) (w := .fieldLink RJ0 38 "java/lang/String" "COMPACT_STRINGS" "Z") (by decide +kernel) rfl)) (fun _ hx => hx) hd (k H locs l9 hH hS hL)
theorem s_strVal {q : Nat} (F : FO base ad z cA D p s m args meth c mi) (hm : mO mi = 12) (hq : q < 4) (hd : decode (mC mi) pc = .ok (.getfield 9, 3)) (k : WG base ad cA D n0 mi p l e R s m args below meth c Q (pc + 3, ls, .inr (.inr (1020 + (q : Int))) :: st, h, g)) : WG base ad cA D n0 mi p l e R s m args below meth c Q (pc, ls, .inr (.inr (1010 + (q : Int))) :: st, h, g) := fun H locs l9 hH hS hL => by
  have ho := F.2.2.2.1
  rw [hm] at ho
  exact vk_getf F.1 F.2.1 (F.2.2.2.2.2.1.2.1.2.2.2.2.2.2 q hq).2.2 hS ho (F.2.2.2.2.1 _ (WB_in (i := pw_vaLink) (w := .fieldLink RJ0 9 "java/lang/String" "value" "[B") (by decide +kernel) rfl)) (fun _ hx => hx) hd (k H locs l9 hH hS hL)
theorem s_strCod {q : Nat} (F : FO base ad z cA D p s m args meth c mi) (hm : mO mi = 12) (hq : q < 4) (hd : decode (mC mi) pc = .ok (.getfield 15, 3)) (k : WG base ad cA D n0 mi p l e R s m args below meth c Q (pc + 3, ls, .inl 0 :: st, h, g)) : WG base ad cA D n0 mi p l e R s m args below meth c Q (pc, ls, .inr (.inr (1010 + (q : Int))) :: st, h, g) := fun H locs l9 hH hS hL => by
  have ho := F.2.2.2.1
  rw [hm] at ho
  exact vk_getf F.1 F.2.1 (F.2.2.2.2.2.1.2.1.2.2.2.2.2.2 q hq).2.1 hS ho (F.2.2.2.2.1 _ (WB_in (i := pw_coLink) (w := .fieldLink RJ0 15 "java/lang/String" "coder" "B") (by decide +kernel) rfl)) (fun _ hx => hx) hd (k H locs l9 hH hS hL)
theorem s_aastore {a i v : Int} {k9 : Nat} (F : FO base ad z cA D p s m args meth c mi) (hd : decode (mC mi) pc = .ok (.aastore, 1)) (h13 : k9 = 13 ∨ k9 = 14 ∨ k9 = 15) (ho : isO a k9 g.1 = true) (hv : isO v (eltK k9) g.1 = true) (h0 : 0 ≤ w32 i) (h1 : w32 i < alen a) (k : WG base ad cA D n0 mi p l e R s m args below meth c Q (pc + 1, ls, st, h, (g.1, u2 g.2 a (w32 i) v))) : WG base ad cA D n0 mi p l e R s m args below meth c Q (pc, ls, .inr (.inr v) :: .inl i :: .inr (.inr a) :: st, h, g) := fun H locs l9 hH hS hL => by
  have had : AdOK base ad := F.2.2.2.2.2.2.2.2.2.1
  have hK := s_FO.K F
  have ea : ad ((a.toNat : Nat) : Int) = ad a := by rw [(isO_spec ho).2.2.1]
  have hec : eltK k9 < 9 := by rcases h13 with rfl | rfl | rfl <;> decide
  obtain ⟨r, hr, hrd, -⟩ := cl_get hec
  have hty : (tysOf cA)[k9 - 10]? = some (cA (k9 - 10), .object r.1) := by
    rcases h13 with rfl | rfl | rfl
    · have e9 : vwCl[eltK 13]? = some (RX1, TX1, 9) := rfl
      cases e9.symm.trans hr
      rfl
    · have e9 : vwCl[eltK 14]? = some (RX4, TX4, 6) := rfl
      cases e9.symm.trans hr
      rfl
    · have e9 : vwCl[eltK 15]? = some (RX5, TX5, 3) := rfl
      cases e9.symm.trans hr
      rfl
  have b1 : 13 ≤ k9 := by omega
  have b2 : k9 ≤ 16 := by omega
  have ha9 := hH.2.2 a.toNat _ (WS_at ho (cellE_R ho b1 b2))
  have hv9 := hH.2.2 v.toNat _ (WS_at hv (cellE_O hv hec))
  have hlt : (Int32.ofInt i).toNatClampNeg < alen a := by rw [e_clamp]; omega
  obtain ⟨r', hr', cellV, g1, g2, g3, -⟩ := hv9
  have hcls := (hK.1 _ r hr).2
  obtain ⟨kA, comp, k1, k2, k3, -⟩ := (hK.2 (k9 - 10) _ hty).2
  have hcomp : comp = D.1 (eltK k9) := Option.some.inj (k3.symm.trans hcls.1)
  subst hcomp
  obtain ⟨kC, hkC, -⟩ := hcls.2
  refine W.aast F.1 F.2.1 ha9 (fun q h => by cases h) (fun h => by cases h) k1 k2 rfl hkC ⟨e_nneg h0, by show _ < (arrV _ _ _).slots.size; rw [arrV_size]; exact hlt⟩ g1 (fun q h => by rw [g3] at h; cases h) (by rw [g2]; exact hkC) (by rw [g2]; exact va_assign hcls) rfl rfl hd fun H1 e9 z9 oq => ?_
  refine k H1 _ l9 (HI_set had hH (a := a.toNat) (g' := (g.1, u2 g.2 a (w32 i) v)) (isO_spec ho).2.1 rfl (fun b _ hb => cellE_congr (fun _ => rfl) (fun j => u2_o (ne_of_toNat (isO_spec ho).1 hb) j)) ?_ z9 (by rw [ea]; exact oq)) (hS.put z9 oq (ad_A had ho hH.2.1)) hL
  rw [cellE_R ho b1 b2, ea]
  show H1[ad a]? = some (vp_cell _ _)
  rw [e9]
  rw [vp_cell_q, vp_cell_q, arrV_store]
  congr 2
  funext q
  by_cases hq : q = (Int32.ofInt i).toNatClampNeg
  · refine (show updV _ _ _ q = _ from if_pos hq).trans (Eq.trans ?_ (congrArg (fun x => va_rf (rnv ad x)) (u2_s.trans (if_pos ((e_idx h0).mp hq))).symm))
    exact (rnv_ref (isO_spec hv).1).symm
  · exact (show updV _ _ _ q = _ from if_neg hq).trans (congrArg (fun x => va_rf (rnv ad x)) (u2_s.trans (if_neg (fun h9 => hq ((e_idx h0).mpr h9)))).symm)
theorem s_new {i ci : Nat} (F : FO base ad z cA D p s m args meth c mi) (hd : decode (mC mi) pc = .ok (.new i, 3)) (hc : clsT (mO mi) i = some ci) (hci : ci < 9) (hn : g.1 < nCell) (hs : shL.getD g.1 (99, 0) = (ci, (vwCl.getD ci (RX0, TX0, 0)).2.2)) (hn0 : n0 ≤ g.1) (r1 : g.1 + 1 - n0 ≤ R.cells) (r2 : sl (g.1 + 1) - sl n0 ≤ R.slots)
    (k : WG base ad cA D n0 mi p l e R s m args below meth c Q (pc + 3, ls, .inr (.inr (g.1 : Int)) :: st, wipe h g.1 (fun j => if fty ci j.toNat = 2 then -1 else 0), (g.1 + 1, wipe g.2 g.1 (fun _ => -1)))) : WG base ad cA D n0 mi p l e R s m args below meth c Q (pc, ls, st, h, g) := fun H locs l9 hH hS hL => by
  have had : AdOK base ad := F.2.2.2.2.2.2.2.2.2.1
  have hK := s_FO.K F
  have hnc := nCell_le
  obtain ⟨r, hr, hrd, hin, hfl, -⟩ := cl_get hci
  rw [hrd] at hs
  obtain ⟨i1, i2⟩ := ins_get hci hrd
  have hcl := F.2.2.2.2.1 _ (clsT_spec hc)
  rw [if_neg (by omega), hrd] at hcl
  have hsl := sl_succ hn
  rw [hs] at hsl
  have hm := sl_mono hn0 (by omega)
  have hKn := hK.1 ci _ hr
  have ead : ad (g.1 : Int) = H.size := by rw [hH.1, had _ (by omega) (by omega)]; simp
  have e1 : g.1 - n0 + 1 = g.1 + 1 - n0 := by omega
  have e2 : sl g.1 - sl n0 + r.2.2 = sl (g.1 + 1) - sl n0 := by omega
  refine W.newcK F.1 F.2.1 F.2.2.2.1 hcl (F.2.2.2.2.1 _ i1) (F.2.2.2.2.1 _ i2) rfl hd (by show g.1 - n0 + 1 ≤ _; omega) (by show sl g.1 - sl n0 + r.2.2 ≤ _; omega) hKn.2.1 rfl fun H1 kC hkC w1 w2 w3 => ?_
  have k2 := k H1 locs l9 (HI_grow (h := h) (g := g) (h' := wipe h g.1 (fun j => if fty ci j.toNat = 2 then -1 else 0)) (g' := (g.1 + 1, wipe g.2 g.1 (fun _ => -1))) had hH (by show H1.size = base + (g.1 + 1); have q9 : H.size = base + g.1 := hH.1; omega) (by show g.1 + 1 ≤ nCell; omega) (by show g.1 ≤ g.1 + 1; omega) w3 (fun b hb => cellE_congr (fun j => wipe_o (a := (g.1 : Int)) (b := b) (by omega) j) (fun j => wipe_o (h := g.2) (a := (g.1 : Int)) (f := fun _ => -1) (b := b) (by omega) j)) (fun b h1 h2 => ?_)) (S_grow hS (by omega) w3) hL
  · have k3 : W p l e R s m args below meth c H1 locs (g.1 + 1 - n0) (sl (g.1 + 1) - sl n0) Q (F0 m (pc + 3) l9 (.ref (ad (g.1 : Int)) :: st.map (mv ad))) := k2
    rw [ead, ← e1, ← e2] at k3
    exact k3
  · have hb : b = g.1 := by
      have : b < g.1 + 1 := h2
      omega
    subst hb
    have hob := u_born (tyOf ci) F.2.2.2.2.1 hin hKn hkC w1 (fun k hk => (hfl k hk).2.1)
    unfold cellE
    simp only [hs]
    rw [if_pos hci]
    refine ⟨r, hr, ?_⟩
    show t_OB (ad (g.1 : Int)) (D.1 ci) r.2.2 (D.2 ci) H1 (vp_V _)
    rw [ead]
    refine hob.to (fun j hj => ?_)
    have hd0 := List.all_eq_true.mp (List.all_eq_true.mp d0_all ci (List.mem_range.mpr hci)) j (List.mem_range.mpr (by rw [hrd]; exact hj))
    simp only [decide_eq_true_eq] at hd0
    rw [hd0]
    show _ = vp_V _ j
    unfold vp_V
    rw [List.getD_eq_getElem?_getD, slotV_get hj]
    show _ = slotV ad _ _ ci j _
    unfold slotV
    by_cases q0 : fty ci j = 0
    · rw [if_pos q0, if_pos q0, wipe_s, if_neg (by simp [q0])]
      rfl
    · rw [if_neg q0, if_neg q0]
      by_cases q1 : fty ci j = 1
      · rw [if_pos q1, wipe_s]
        rfl
      · have q2 : fty ci j = 2 := by have := (hfl j hj).2.2.2.2.2; omega
        rw [if_neg q1, wipe_s, if_pos (by simp [q2])]
        rfl
theorem s_newarrI {x : Int} (F : FO base ad z cA D p s m args meth c mi) (hd : decode (mC mi) pc = .ok (.newarray .int, 2)) (hx0 : 0 ≤ x) (hx1 : x ≤ 1000) (hn : g.1 < nCell) (hs : shL.getD g.1 (99, 0) = (10, x.toNat)) (hn0 : n0 ≤ g.1) (r1 : g.1 + 1 - n0 ≤ R.cells) (r2 : sl (g.1 + 1) - sl n0 ≤ R.slots)
    (k : WG base ad cA D n0 mi p l e R s m args below meth c Q (pc + 2, ls, .inr (.inr (g.1 : Int)) :: st, wipe h g.1 (fun _ => 0), (g.1 + 1, wipe g.2 g.1 (fun _ => -1)))) : WG base ad cA D n0 mi p l e R s m args below meth c Q (pc, ls, .inl x :: st, h, g) := fun H locs l9 hH hS hL => by
  have had : AdOK base ad := F.2.2.2.2.2.2.2.2.2.1
  have hK := s_FO.K F
  have hnc := nCell_le
  have hsl := sl_succ hn
  rw [hs] at hsl
  have hm := sl_mono hn0 (by omega)
  have ead : ad (g.1 : Int) = H.size := by rw [hH.1, had _ (by omega) (by omega)]; simp
  have e1 : g.1 - n0 + 1 = g.1 + 1 - n0 := by omega
  have e2 : sl g.1 - sl n0 + x.toNat = sl (g.1 + 1) - sl n0 := by have : (10, x.toNat).2 = x.toNat := rfl; omega
  have ew : w32 x = x := e_small (by omega) (by omega)
  refine va_newaK (atype := .int) F.1 F.2.1 (F.2.2.2.2.1 (.arrayClass .int) (WB_in (i := pw_arI) (by decide +kernel) rfl)) rfl hd rfl (e_nneg (by rw [ew]; exact hx0)) (N := x.toNat) (by rw [e_clamp, ew]) (by show x.toNat * 4 ≤ _; omega) (by show g.1 - n0 + 1 ≤ _; omega) (by show sl g.1 - sl n0 + x.toNat ≤ _; omega) rfl fun H1 cA9 w1 w2 w3 w4 w5 => ?_
  have k2 := k H1 locs l9 (HI_grow (h := h) (g := g) (h' := wipe h g.1 (fun _ => 0)) (g' := (g.1 + 1, wipe g.2 g.1 (fun _ => -1))) had hH (by show H1.size = base + (g.1 + 1); have q9 : H.size = base + g.1 := hH.1; omega) (by show g.1 + 1 ≤ nCell; omega) (by show g.1 ≤ g.1 + 1; omega) w3 (fun b hb => cellE_congr (fun j => wipe_o (a := (g.1 : Int)) (b := b) (by omega) j) (fun j => wipe_o (h := g.2) (a := (g.1 : Int)) (f := fun _ => -1) (b := b) (by omega) j)) (fun b h1 h2 => ?_)) (S_grow hS (by omega) w3) hL
  · have k3 : W p l e R s m args below meth c H1 locs (g.1 + 1 - n0) (sl (g.1 + 1) - sl n0) Q (F0 m (pc + 2) l9 (.ref (ad (g.1 : Int)) :: st.map (mv ad))) := k2
    rw [ead, ← e1, ← e2] at k3
    exact k3
  · have hb : b = g.1 := by
      have : b < g.1 + 1 := h2
      omega
    subst hb
    have hca : cA9 = cA 0 := Option.some.inj (w5.symm.trans (hK.2 0 _ rfl).2)
    subst hca
    unfold cellE
    simp only [hs]
    show H1[ad (g.1 : Int)]? = some (vp_cell _ _)
    rw [ead, w1, vp_cell_i]
    refine congrArg some (congrArg (arrV _ _) (funext fun j => ?_))
    rw [wipe_s]
    rfl
theorem s_newarrJ {x : Int} (F : FO base ad z cA D p s m args meth c mi) (hd : decode (mC mi) pc = .ok (.newarray .long, 2)) (hx0 : 0 ≤ x) (hx1 : x ≤ 1000) (hn : g.1 < nCell) (hs : shL.getD g.1 (99, 0) = (11, x.toNat)) (hn0 : n0 ≤ g.1) (r1 : g.1 + 1 - n0 ≤ R.cells) (r2 : sl (g.1 + 1) - sl n0 ≤ R.slots)
    (k : WG base ad cA D n0 mi p l e R s m args below meth c Q (pc + 2, ls, .inr (.inr (g.1 : Int)) :: st, wipe h g.1 (fun _ => 0), (g.1 + 1, wipe g.2 g.1 (fun _ => -1)))) : WG base ad cA D n0 mi p l e R s m args below meth c Q (pc, ls, .inl x :: st, h, g) := fun H locs l9 hH hS hL => by
  have had : AdOK base ad := F.2.2.2.2.2.2.2.2.2.1
  have hK := s_FO.K F
  have hnc := nCell_le
  have hsl := sl_succ hn
  rw [hs] at hsl
  have hm := sl_mono hn0 (by omega)
  have ead : ad (g.1 : Int) = H.size := by rw [hH.1, had _ (by omega) (by omega)]; simp
  have e1 : g.1 - n0 + 1 = g.1 + 1 - n0 := by omega
  have e2 : sl g.1 - sl n0 + x.toNat = sl (g.1 + 1) - sl n0 := by have : (11, x.toNat).2 = x.toNat := rfl; omega
  have ew : w32 x = x := e_small (by omega) (by omega)
  refine va_newaK (atype := .long) F.1 F.2.1 (F.2.2.2.2.1 (.arrayClass .long) (WB_in (i := pw_arJ) (by decide +kernel) rfl)) rfl hd rfl (e_nneg (by rw [ew]; exact hx0)) (N := x.toNat) (by rw [e_clamp, ew]) (by show x.toNat * 8 ≤ _; omega) (by show g.1 - n0 + 1 ≤ _; omega) (by show sl g.1 - sl n0 + x.toNat ≤ _; omega) rfl fun H1 cA9 w1 w2 w3 w4 w5 => ?_
  have k2 := k H1 locs l9 (HI_grow (h := h) (g := g) (h' := wipe h g.1 (fun _ => 0)) (g' := (g.1 + 1, wipe g.2 g.1 (fun _ => -1))) had hH (by show H1.size = base + (g.1 + 1); have q9 : H.size = base + g.1 := hH.1; omega) (by show g.1 + 1 ≤ nCell; omega) (by show g.1 ≤ g.1 + 1; omega) w3 (fun b hb => cellE_congr (fun j => wipe_o (a := (g.1 : Int)) (b := b) (by omega) j) (fun j => wipe_o (h := g.2) (a := (g.1 : Int)) (f := fun _ => -1) (b := b) (by omega) j)) (fun b h1 h2 => ?_)) (S_grow hS (by omega) w3) hL
  · have k3 : W p l e R s m args below meth c H1 locs (g.1 + 1 - n0) (sl (g.1 + 1) - sl n0) Q (F0 m (pc + 2) l9 (.ref (ad (g.1 : Int)) :: st.map (mv ad))) := k2
    rw [ead, ← e1, ← e2] at k3
    exact k3
  · have hb : b = g.1 := by
      have : b < g.1 + 1 := h2
      omega
    subst hb
    have hca : cA9 = cA 1 := Option.some.inj (w5.symm.trans (hK.2 1 _ rfl).2)
    subst hca
    unfold cellE
    simp only [hs]
    show H1[ad (g.1 : Int)]? = some (vp_cell _ _)
    rw [ead, w1, vp_cell_l]
    refine congrArg some (congrArg (arrV _ _) (funext fun j => ?_))
    rw [wipe_s]
    rfl
theorem s_newarrC {x : Int} (F : FO base ad z cA D p s m args meth c mi) (hd : decode (mC mi) pc = .ok (.newarray .char, 2)) (hx0 : 0 ≤ x) (hx1 : x ≤ 1000) (hn : g.1 < nCell) (hs : shL.getD g.1 (99, 0) = (12, x.toNat)) (hn0 : n0 ≤ g.1) (r1 : g.1 + 1 - n0 ≤ R.cells) (r2 : sl (g.1 + 1) - sl n0 ≤ R.slots)
    (k : WG base ad cA D n0 mi p l e R s m args below meth c Q (pc + 2, ls, .inr (.inr (g.1 : Int)) :: st, wipe h g.1 (fun _ => 0), (g.1 + 1, wipe g.2 g.1 (fun _ => -1)))) : WG base ad cA D n0 mi p l e R s m args below meth c Q (pc, ls, .inl x :: st, h, g) := fun H locs l9 hH hS hL => by
  have had : AdOK base ad := F.2.2.2.2.2.2.2.2.2.1
  have hK := s_FO.K F
  have hnc := nCell_le
  have hsl := sl_succ hn
  rw [hs] at hsl
  have hm := sl_mono hn0 (by omega)
  have ead : ad (g.1 : Int) = H.size := by rw [hH.1, had _ (by omega) (by omega)]; simp
  have e1 : g.1 - n0 + 1 = g.1 + 1 - n0 := by omega
  have e2 : sl g.1 - sl n0 + x.toNat = sl (g.1 + 1) - sl n0 := by have : (12, x.toNat).2 = x.toNat := rfl; omega
  have ew : w32 x = x := e_small (by omega) (by omega)
  refine va_newaK (atype := .char) F.1 F.2.1 (F.2.2.2.2.1 (.arrayClass .char) (WB_in (i := pw_arC) (by decide +kernel) rfl)) rfl hd rfl (e_nneg (by rw [ew]; exact hx0)) (N := x.toNat) (by rw [e_clamp, ew]) (by show x.toNat * 2 ≤ _; omega) (by show g.1 - n0 + 1 ≤ _; omega) (by show sl g.1 - sl n0 + x.toNat ≤ _; omega) rfl fun H1 cA9 w1 w2 w3 w4 w5 => ?_
  have k2 := k H1 locs l9 (HI_grow (h := h) (g := g) (h' := wipe h g.1 (fun _ => 0)) (g' := (g.1 + 1, wipe g.2 g.1 (fun _ => -1))) had hH (by show H1.size = base + (g.1 + 1); have q9 : H.size = base + g.1 := hH.1; omega) (by show g.1 + 1 ≤ nCell; omega) (by show g.1 ≤ g.1 + 1; omega) w3 (fun b hb => cellE_congr (fun j => wipe_o (a := (g.1 : Int)) (b := b) (by omega) j) (fun j => wipe_o (h := g.2) (a := (g.1 : Int)) (f := fun _ => -1) (b := b) (by omega) j)) (fun b h1 h2 => ?_)) (S_grow hS (by omega) w3) hL
  · have k3 : W p l e R s m args below meth c H1 locs (g.1 + 1 - n0) (sl (g.1 + 1) - sl n0) Q (F0 m (pc + 2) l9 (.ref (ad (g.1 : Int)) :: st.map (mv ad))) := k2
    rw [ead, ← e1, ← e2] at k3
    exact k3
  · have hb : b = g.1 := by
      have : b < g.1 + 1 := h2
      omega
    subst hb
    have hca : cA9 = cA 2 := Option.some.inj (w5.symm.trans (hK.2 2 _ rfl).2)
    subst hca
    unfold cellE
    simp only [hs]
    show H1[ad (g.1 : Int)]? = some (vp_cell _ _)
    rw [ead, w1, vp_cell_i]
    refine congrArg some (congrArg (arrV _ _) (funext fun j => ?_))
    rw [wipe_s]
    rfl
theorem s_anew {i ci k9 : Nat} {x : Int} (F : FO base ad z cA D p s m args meth c mi) (hd : decode (mC mi) pc = .ok (.anewarray i, 3)) (hc : clsT (mO mi) i = some ci) (hk9 : (ci = 1 ∧ k9 = 13) ∨ (ci = 4 ∧ k9 = 14) ∨ (ci = 5 ∧ k9 = 15)) (hx0 : 0 ≤ x) (hx1 : x ≤ 1000) (hn : g.1 < nCell) (hs : shL.getD g.1 (99, 0) = (k9, x.toNat)) (hn0 : n0 ≤ g.1) (r1 : g.1 + 1 - n0 ≤ R.cells) (r2 : sl (g.1 + 1) - sl n0 ≤ R.slots)
    (k : WG base ad cA D n0 mi p l e R s m args below meth c Q (pc + 3, ls, .inr (.inr (g.1 : Int)) :: st, wipe h g.1 (fun _ => 0), (g.1 + 1, wipe g.2 g.1 (fun _ => -1)))) : WG base ad cA D n0 mi p l e R s m args below meth c Q (pc, ls, .inl x :: st, h, g) := fun H locs l9 hH hS hL => by
  have had : AdOK base ad := F.2.2.2.2.2.2.2.2.2.1
  have hK := s_FO.K F
  have hnc := nCell_le
  have hsl := sl_succ hn
  rw [hs] at hsl
  have hm := sl_mono hn0 (by omega)
  have ead : ad (g.1 : Int) = H.size := by rw [hH.1, had _ (by omega) (by omega)]; simp
  have e1 : g.1 - n0 + 1 = g.1 + 1 - n0 := by omega
  have e2 : sl g.1 - sl n0 + x.toNat = sl (g.1 + 1) - sl n0 := by have : (k9, x.toNat).2 = x.toNat := rfl; omega
  have ew : w32 x = x := e_small (by omega) (by omega)
  have ec : (Int32.ofInt x).toNatClampNeg = x.toNat := by rw [e_clamp, ew]
  have hcl := F.2.2.2.2.1 _ (clsT_spec hc)
  have hfind : ∃ C : String, (Cond.classLink (oN (mO mi)) i C).before args s = true ∧ va_AO C s ∧ (tysOf cA)[k9 - 10]? = some (cA (k9 - 10), .object C) := by
    rcases hk9 with ⟨rfl, rfl⟩ | ⟨rfl, rfl⟩ | ⟨rfl, rfl⟩
    · exact ⟨RX1, hcl, F.2.2.2.2.2.1.1.2.2.2.2.2.1, rfl⟩
    · exact ⟨RX4, hcl, F.2.2.2.2.2.1.1.2.2.2.2.2.2.1, rfl⟩
    · exact ⟨RX5, hcl, F.2.2.2.2.2.1.1.2.2.2.2.2.2.2.1, rfl⟩
  obtain ⟨C, hcl2, hao, hty⟩ := hfind
  refine W.anew F.1 F.2.1 F.2.2.2.1 hcl2 hao.use rfl hd rfl (e_nneg (by rw [ew]; exact hx0)) (by rw [ec]; omega) (by show g.1 - n0 + 1 ≤ _; omega) (by show sl g.1 - sl n0 + (Int32.ofInt x).toNatClampNeg ≤ _; rw [ec]; omega) fun cA9 kA comp w1 w2 w3 w4 => ?_
  rw [ec]
  have w5 : ∀ q : Nat, q < H.size → (H.push ({ cls := cA9, slots := Array.replicate x.toNat .null, vm := .none } : Cell))[q]? = H[q]? := fun q hq => by rw [Array.getElem?_push, if_neg (Nat.ne_of_lt hq)]
  have k2 := k _ locs l9 (HI_grow (h := h) (g := g) (h' := wipe h g.1 (fun _ => 0)) (g' := (g.1 + 1, wipe g.2 g.1 (fun _ => -1))) had hH (H1 := H.push ({ cls := cA9, slots := Array.replicate x.toNat .null, vm := .none } : Cell)) (by show (H.push _).size = base + (g.1 + 1); have q9 : H.size = base + g.1 := hH.1; rw [Array.size_push]; omega) (by show g.1 + 1 ≤ nCell; omega) (by show g.1 ≤ g.1 + 1; omega) w5 (fun b hb => cellE_congr (fun j => wipe_o (a := (g.1 : Int)) (b := b) (by omega) j) (fun j => wipe_o (h := g.2) (a := (g.1 : Int)) (f := fun _ => -1) (b := b) (by omega) j)) (fun b h1 h2 => ?_)) (S_grow hS (by rw [Array.size_push]; omega) w5) hL
  · have k3 : W p l e R s m args below meth c (H.push ({ cls := cA9, slots := Array.replicate x.toNat .null, vm := .none } : Cell)) locs (g.1 + 1 - n0) (sl (g.1 + 1) - sl n0) Q (F0 m (pc + 3) l9 (.ref (ad (g.1 : Int)) :: st.map (mv ad))) := k2
    rw [ead, ← e1, ← e2] at k3
    exact k3
  · have hb : b = g.1 := by
      have : b < g.1 + 1 := h2
      omega
    subst hb
    obtain ⟨kA', comp', a1, a2, a3, a4⟩ := (hK.2 (k9 - 10) _ hty).2
    have hca : cA9 = cA (k9 - 10) := Option.some.inj (w1.symm.trans a4)
    subst hca
    unfold cellE
    simp only [hs]
    rw [if_neg (by omega), if_neg (by omega), if_neg (by omega), if_neg (by omega)]
    show (H.push _)[ad (g.1 : Int)]? = some (vp_cell _ _)
    rw [ead, Array.getElem?_push_size, vp_cell_q, arrV_new]
    refine congrArg some (congrArg (arrV _ _) (funext fun j => ?_))
    rw [wipe_s]
    rfl

end FRD
end
section
/-! ===== a frame of method mi at a place of the plain machine: what is built in ===== -/
theorem blt_all : bltL.all (fun e => decide (lw_tbl[e.2.2.2]? = some (.methodLink (oN e.1) e.2.1 (if e.2.2.1 = 1 then objectInit else if e.2.2.1 = 2 then arraycopyName else if e.2.2.1 = 3 then yJ0_checkIndex_df160 else Lib.Math.max.name)))) = true := by decide +kernel
theorem bltT_spec {o i b : Nat} (h : bltT o i = some b) : Cond.methodLink (oN o) i (if b = 1 then objectInit else if b = 2 then arraycopyName else if b = 3 then yJ0_checkIndex_df160 else Lib.Math.max.name) ∈ WB := by
  unfold bltT at h
  cases hf : bltL.find? (fun e => e.1 == o && e.2.1 == i) with
  | none => rw [hf] at h; cases h
  | some e =>
    rw [hf] at h
    cases h
    have h1 := List.mem_of_find?_eq_some hf
    have h2 := List.find?_some hf
    simp only [Bool.and_eq_true, beq_iff_eq] at h2
    have h3 := List.all_eq_true.mp blt_all e h1
    simp only [decide_eq_true_eq] at h3
    rw [h2.1, h2.2] at h3
    exact WB_in h3 rfl
theorem good_WB {ws : List Cond} (h : ∀ w ∈ ws, w ∈ WB) : GoodIn WB ws := fun w hw => ⟨h w hw, good_of_word (List.mem_filter.mp (h w hw)).2⟩
/-- the checks of an index, inside the JDK -/
def ws_pc : List Cond := [.code yJ3_checkIndex_8e157 cJ3_checkIndex_8e157 3 (some .int)]
def ws_ci : List Cond := [.code yJ0_checkIndex_df160 cJ0_checkIndex_df160 2 none, .fieldLink RJ0 1053 "jdk/internal/util/Preconditions" "SIOOBE_FORMATTER" "Ljava/util/function/BiFunction;", .methodLink RJ0 1059 yJ3_checkIndex_8e157, .static yJ3_checkIndex_8e157, .initialized RJ3, .code yJ3_checkIndex_8e157 cJ3_checkIndex_8e157 3 (some .int)]
def Same (oc : Option Value) : Array Value → State → Outcome → State → Prop := fun _ st o t => o = .returned oc ∧ t.heap = st.heap
theorem c_pc (l : Launch) (i n : Int32) (v : Value) (hv : v.category = 1) (h0 : ¬ i < 0) (h1 : i < n) : Met l yJ3_checkIndex_8e157 ws_pc ({ frames := 0, cells := 0, slots := 0, locals := 0 }) (va_Pc [.int i, .int n, v] (fun _ => True)) (Same (some (.int i))) 0 0 (fun _ => False) := by
  refine Met.ofW (cc := cJ3_checkIndex_8e157) (maxL := 3) (ret := some .int) (by decide) rfl ?_
  intro p e s m args below meth c s₁ B hml hv9
  obtain ⟨rfl, -⟩ := hv9
  have hx := B.exec
  have hb := B.bytes
  have hr := B.returns
  have hlocks := B.notSynchronized
  have hl := lv_entry ([.int i, .int n, v]) (n := 3) (by cases v <;> simp_all [lg_sl, Value.category])
  rw [lg_entry_eq]
  generalize (lg_sl ([.int i, .int n, v]) ++ List.replicate (3 - (lg_sl ([.int i, .int n, v])).length) Slot.unset).toArray = ls at hl ⊢
  have g0 : ls[0]? = some (.val (.int i)) := lv_at hl 0 rfl
  have g1 : ls[1]? = some (.val (.int n)) := lv_at hl 1 rfl
  refine lv_iload_n hx hb (k := 0) (by decide +kernel) rfl g0 ?_
  refine lv_if_lt hx hb (tgt := 9) (off := 8) (by decide +kernel) (by decide) (fun q => absurd q h0) (fun _ => ?_)
  refine lv_iload_n hx hb (k := 0) (by decide +kernel) rfl g0 ?_
  refine lv_iload_n hx hb (k := 1) (by decide +kernel) rfl g1 ?_
  refine lv_icmp_lt hx hb (tgt := 16) (off := 10) (by decide +kernel) (by decide) (fun _ => ?_) (fun q => absurd h1 q)
  refine lv_iload_n hx hb (k := 0) (by decide +kernel) rfl g0 ?_
  exact W.iret hx hb hr (fun t ht _ => ⟨rfl, ht⟩) (fun _ h => by cases h) (by decide +kernel)
theorem c_ci (l : Launch) (A : Nat → Prop) (i n : Int32) (h0 : ¬ i < 0) (h1 : i < n) : Met l yJ0_checkIndex_df160 ws_ci ({ frames := 1, cells := 0, slots := 0, locals := 22 }) (va_Pc [.int i, .int n] (fun U => va_Zq "jdk/internal/util/Preconditions" "SIOOBE_FORMATTER" "Ljava/util/function/BiFunction;" A U U.heap)) (Same none) 0 0 (fun _ => False) := by
  refine Met.ofW (cc := cJ0_checkIndex_df160) (maxL := 2) (ret := none) (by decide) rfl ?_
  intro p e s m args below meth c s₁ B hml hv9
  obtain ⟨rfl, hZ⟩ := hv9
  have hx := B.exec
  have hb := B.bytes
  have hr := B.returns
  have hts := atoms_spec (ws := ws_ci) B.pre
  have hown : s.vm.findClass RJ0 = some m.cls := findClass_of_methodNamed B.named
  have hlocks := B.notSynchronized
  have hl := lv_entry ([.int i, .int n]) (n := 2) (Nat.le_of_ble_eq_true rfl)
  rw [lg_entry_eq]
  generalize (lg_sl ([.int i, .int n]) ++ List.replicate (2 - (lg_sl ([.int i, .int n])).length) Slot.unset).toArray = ls at hl ⊢
  have g0 : ls[0]? = some (.val (.int i)) := lv_at hl 0 rfl
  have g1 : ls[1]? = some (.val (.int n)) := lv_at hl 1 rfl
  have key : ∀ v : Value, v.category = 1 → va_Z "jdk/internal/util/Preconditions" "SIOOBE_FORMATTER" "Ljava/util/function/BiFunction;" v A s s.heap → W p l e (headSpec ws_ci ({ frames := 1, cells := 0, slots := 0, locals := 22 })).room s m ([.int i, .int n] : List Value).toArray below meth c s.heap [] 0 0 (MQ below (Same none) ([.int i, .int n] : List Value).toArray s 0 0 (fun _ => False)) (F0 m 0 ls []) := by
    intro v hc hZ9
    refine lv_iload_n hx hb (k := 0) (by decide +kernel) rfl g0 ?_
    refine lv_iload_n hx hb (k := 1) (by decide +kernel) rfl g1 ?_
    refine va_gets hx hb (index := 1053) hZ9 va_S.rf hown (hts (.fieldLink RJ0 1053 "jdk/internal/util/Preconditions" "SIOOBE_FORMATTER" "Ljava/util/function/BiFunction;") (by simp [ws_ci])) (fun _ h => h) (by decide +kernel) ?_
    have hG : GoodIn ws_ci (va_wsS RJ0 1059 yJ3_checkIndex_8e157 ws_pc) := goodIn_of _ (by decide +kernel)
    intro T hT X
    obtain ⟨v9, st₀, t, T', L, q0, X', hL, e1, e2, hq, stp⟩ := va_runS (index := 1059) (As := [.int i, .int n, v]) (rest := []) ⟨hx, hb, hml, hown, hts⟩ (c_pc l i n v hc h0 h1) (va_cwS 3 hts hG rfl rfl rfl (by decide +kernel) ⟨Nat.le_of_ble_eq_true rfl, Nat.le_of_ble_eq_true rfl⟩) ⟨fun _ _ _ _ h => h, fun U hU hW => ⟨rfl, trivial⟩⟩ rfl rfl hl.1 rfl (lv_room (Nat.le_of_ble_eq_true rfl)) (g := F0 m (0 + 1 + 1 + 3) ls [v, .int n, .int i]) (show decode cJ0_checkIndex_df160 5 = _ from by decide +kernel) ⟨Nat.le_of_ble_eq_true rfl, Nat.le_of_ble_eq_true rfl⟩ T hT X
    obtain ⟨hq1, hq2⟩ := hq
    cases hq1
    have hL0 : L = [] := by
      cases L with
      | nil => rfl
      | cons a b => exact (hL a List.mem_cons_self).elim
    subst hL0
    have k : W p l e (headSpec ws_ci ({ frames := 1, cells := 0, slots := 0, locals := 22 })).room s m ([.int i, .int n] : List Value).toArray below meth c s.heap [] 0 0 (MQ below (Same none) ([.int i, .int n] : List Value).toArray s 0 0 (fun _ => False)) (F0 m 8 ls [.int i]) := by
      refine lv_pop hx hb (by decide +kernel) rfl ?_
      exact W.vret hx hb hr (fun t ht _ => ⟨rfl, ht⟩) (fun _ h => by cases h) (by decide +kernel)
    obtain ⟨t2, a1, b1⟩ := k T' (by rw [e1, hq2, q0]) X'
    exact ⟨t2, stp t2 a1, b1⟩
  rcases hZ with h | ⟨t, h⟩
  · exact key .null rfl h
  · exact key (.ref t) rfl h
section FRE
variable {base : Nat} {ad : Int → Nat} {z : Int → Int} {cA : Nat → ClassId} {D : va_G} {n0 mi : Nat} {p : Program} {l : Launch} {e : Env} {R : Room} {s : State} {m : MethodId} {args : Array Value} {below : List Frame} {meth : Method} {c : Code} {Q : State → Prop}
variable {pc : Nat} {ls : PL} {st : List PV} {h : PH} {g : PG}
theorem s_objInit {a : Int} {i : Nat} (F : FO base ad z cA D p s m args meth c mi) (hd : decode (mC mi) pc = .ok (.invokespecial i, 3)) (hb9 : bltT (mO mi) i = some 1) (hF : 3 ≤ R.frames) (hW : 100 ≤ R.locals) (hst : pcats st ≤ 8) (k : WG base ad cA D n0 mi p l e R s m args below meth c Q (pc + 3, ls, st, h, g)) : WG base ad cA D n0 mi p l e R s m args below meth c Q (pc, ls, .inr (.inr a) :: st, h, g) := fun H locs l9 hH hS hL => by
  have h9 := F.2.2.2.2.1 _ (bltT_spec hb9)
  rw [if_pos rfl] at h9
  exact W.objInit F.1 F.2.1 F.2.2.2.1 h9 (F.2.2.2.2.1 _ (WB_in (i := pw_oiInst) (w := .instanceMethod objectInit) (by decide +kernel) rfl)) (F.2.2.2.2.1 _ (WB_in (i := pw_oiCode) (w := .code objectInit ⟨#[0xb1]⟩ 1 none) rfl rfl)) rfl (by rw [F.2.2.1]; exact hL.1) rfl hd (by omega) (by rw [mv_cats]; show 2 * 0 + _ + 12 ≤ _; omega) (k H locs l9 hH hS hL)
theorem s_max {x y : Int} {i : Nat} (F : FO base ad z cA D p s m args meth c mi) (hd : decode (mC mi) pc = .ok (.invokestatic i, 3)) (hb9 : bltT (mO mi) i = some 4) (hF : 3 ≤ R.frames) (hW : 100 ≤ R.locals) (hst : pcats st ≤ 8) (hc : g.1 - n0 ≤ R.cells) (hs9 : sl g.1 - sl n0 ≤ R.slots) (k : WG base ad cA D n0 mi p l e R s m args below meth c Q (pc + 3, ls, .inl (if w32 x < w32 y then y else x) :: st, h, g)) : WG base ad cA D n0 mi p l e R s m args below meth c Q (pc, ls, .inl y :: .inl x :: st, h, g) := fun H locs l9 hH hS hL => by
  have h9 := F.2.2.2.2.1 _ (bltT_spec hb9)
  rw [if_neg (by decide), if_neg (by decide), if_neg (by decide)] at h9
  have k2 := k H locs l9 hH hS hL
  refine va_mmax F.1 F.2.1 (by rw [F.2.2.1]; exact hL.1.symm) F.2.2.2.1 h9 (F.2.2.2.2.1 _ (WB_in (i := pw_mxStatic) (w := .static Lib.Math.max.name) (by decide +kernel) rfl)) (F.2.2.2.2.1 _ (WB_in (i := pw_mxInit) (w := .initialized "java/lang/Math") (by decide +kernel) rfl)) (F.2.2.2.2.1 _ (WB_in (i := pw_mxCode) (w := .code Lib.Math.max.name Lib.Math.max.code 2 (some .int)) (by decide +kernel) rfl)) (by omega) (by rw [mv_cats]; omega) hc hs9 hd ?_
  by_cases q : w32 x < w32 y
  · rw [if_pos ((e_lt x y).mpr q)]
    rw [if_pos q] at k2
    exact k2
  · rw [if_neg (fun q2 => q ((e_lt x y).mp q2))]
    rw [if_neg q] at k2
    exact k2
set_option maxRecDepth 1000000 in
theorem s_chk {x y : Int} {i : Nat} (F : FO base ad z cA D p s m args meth c mi) (hd : decode (mC mi) pc = .ok (.invokestatic i, 3)) (hb9 : bltT (mO mi) i = some 3) (hF : 3 ≤ R.frames) (hW : 100 ≤ R.locals) (hst : pcats st ≤ 8) (hc : g.1 - n0 ≤ R.cells) (hs9 : sl g.1 - sl n0 ≤ R.slots) (h0 : 0 ≤ w32 x) (h1 : w32 x < w32 y) (k : WG base ad cA D n0 mi p l e R s m args below meth c Q (pc + 3, ls, st, h, g)) : WG base ad cA D n0 mi p l e R s m args below meth c Q (pc, ls, .inl y :: .inl x :: st, h, g) := fun H locs l9 hH hS hL => by
  have h9 := F.2.2.2.2.1 _ (bltT_spec hb9)
  rw [if_neg (by decide), if_neg (by decide), if_pos rfl] at h9
  have w1 : Cond.static yJ0_checkIndex_df160 ∈ WB := WB_in (i := pw_ciStatic) (by decide +kernel) rfl
  have w2 : Cond.initialized RJ0 ∈ WB := WB_in (i := pw_stInit) (by decide +kernel) rfl
  have w3 : ∀ w ∈ ws_ci, w ∈ WB := by
    intro w hw
    simp only [ws_ci, List.mem_cons, List.not_mem_nil, or_false] at hw
    rcases hw with rfl | rfl | rfl | rfl | rfl | rfl
    · exact WB_in (i := pw_ciCode) rfl rfl
    · exact WB_in (i := pw_siLink) (by decide +kernel) rfl
    · exact WB_in (i := pw_pcLink) (by decide +kernel) rfl
    · exact WB_in (i := pw_pcStatic) (by decide +kernel) rfl
    · exact WB_in (i := pw_pcInit) (by decide +kernel) rfl
    · exact WB_in (i := pw_pcCode) rfl rfl
  have hG : GoodIn WB (va_wsS (oN (mO mi)) i yJ0_checkIndex_df160 ws_ci) := good_WB (fun w hw => by
    rcases List.mem_append.mp hw with hw | hw
    · simp only [List.mem_cons, List.not_mem_nil, or_false] at hw
      rcases hw with rfl | rfl | rfl
      · exact bltT_spec hb9
      · exact w1
      · exact w2
    · exact w3 w hw)
  intro T hT X
  obtain ⟨v9, st₀, t, T', L, q0, X', hL9, e1, e2, hq, stp⟩ := va_runS (index := i) (As := [.int (Int32.ofInt x), .int (Int32.ofInt y)]) (rest := st.map (mv ad)) ⟨F.1, F.2.1, F.2.2.1, F.2.2.2.1, F.2.2.2.2.1⟩ (c_ci l (ZA base) (Int32.ofInt x) (Int32.ofInt y) (e_nneg h0) ((e_lt x y).mpr h1)) (va_cwS 2 F.2.2.2.2.1 hG rfl rfl rfl (by decide +kernel) ⟨by show 1 + 1 ≤ _; omega, by show 8 + (2 + 11) + 22 ≤ _; omega⟩)
    ⟨fun a U g9 mk q => ⟨q.1, va_Zq.moved (u := U) (U := U.calling g9 mk a) (Vm.Alike.refl U.vm) q.2⟩, fun U hU hW => ⟨rfl, (F.2.2.2.2.2.1.2.1.2.2.2.1.moved hW.alike).kept (fun a ha hn => by rw [hU]; exact hS.2.1 a ha hn)⟩⟩ rfl rfl hL.1 rfl (lv_room (by rw [mv_cats]; exact hst)) (g := F0 m pc l9 (.int (Int32.ofInt y) :: .int (Int32.ofInt x) :: st.map (mv ad))) hd ⟨by show g.1 - n0 + 0 ≤ _; omega, by show sl g.1 - sl n0 + 0 ≤ _; omega⟩ T hT X
  obtain ⟨hq1, hq2⟩ := hq
  cases hq1
  have hL0 : L = [] := by
    cases L with
    | nil => rfl
    | cons a b => exact (hL9 a List.mem_cons_self).elim
  subst hL0
  rw [List.append_nil] at X'
  obtain ⟨t2, a1, b1⟩ := k H locs l9 hH hS hL T' (by rw [e1, hq2, q0]) X'
  exact ⟨t2, stp t2 a1, b1⟩
theorem s_copy {a b i j n : Int} {q : Nat} (F : FO base ad z cA D p s m args meth c mi) (hd : decode (mC mi) pc = .ok (.invokestatic q, 3)) (hb9 : bltT (mO mi) q = some 2) (hF : 3 ≤ R.frames) (hW : 100 ≤ R.locals) (hst : pcats st ≤ 8) (ha : isO a 10 g.1 = true) (hb : isO b 10 g.1 = true) (hi : 0 ≤ w32 i) (hj : 0 ≤ w32 j) (hn : 0 ≤ w32 n) (h1 : w32 i + w32 n ≤ alen a) (h2 : w32 j + w32 n ≤ alen b)
    (k : WG base ad cA D n0 mi p l e R s m args below meth c Q (pc + 3, ls, st, cpyH h a (w32 i) b (w32 j) (w32 n), g)) : WG base ad cA D n0 mi p l e R s m args below meth c Q (pc, ls, .inl n :: .inl j :: .inr (.inr b) :: .inl i :: .inr (.inr a) :: st, h, g) := fun H locs l9 hH hS hL => by
  have h9 := F.2.2.2.2.1 _ (bltT_spec hb9)
  rw [if_neg (by decide), if_pos rfl] at h9
  have had : AdOK base ad := F.2.2.2.2.2.2.2.2.2.1
  have hK := s_FO.K F
  have c0 := hH.2.2 a.toNat _ (WS_at ha (cellE_I ha))
  have c1 := hH.2.2 b.toNat _ (WS_at hb (cellE_I hb))
  intro T hT X
  have hc0 : H[ad a]? = some (vp_cell (cA 0) (alen a, .inl (fun j => Int32.ofInt (h a j)))) := c0
  have hc1 : H[ad b]? = some (vp_cell (cA 0) (alen b, .inl (fun j => Int32.ofInt (h b j)))) := c1
  obtain ⟨-, k0, hk0, cm0, hkk0⟩ := (hK.2 0 _ rfl).1 (alen a) (fun j => .int (Int32.ofInt (h a j)))
  obtain ⟨-, k1, hk1, cm1, hkk1⟩ := (hK.2 0 _ rfl).1 (alen b) (fun j => .int (Int32.ofInt (h b j)))
  have ei : (Int32.ofInt i).toNatClampNeg = (w32 i).toNat := e_clamp i
  have ej : (Int32.ofInt j).toNatClampNeg = (w32 j).toNat := e_clamp j
  have en : (Int32.ofInt n).toNatClampNeg = (w32 n).toNat := e_clamp n
  obtain ⟨vm', X', step⟩ := X.arraycopy F.1 F.2.2.2.1 h9 (F.2.2.2.2.1 _ (WB_in (i := pw_acNative) (w := .native arraycopyName) (by decide +kernel) rfl)) (F.2.2.2.2.1 _ (WB_in (i := pw_acStatic) (w := .static arraycopyName) (by decide +kernel) rfl)) (F.2.2.2.2.1 _ (WB_in (i := pw_acInit) (w := .initialized "java/lang/System") (by decide +kernel) rfl)) (src := ad a) (dst := ad b) (cs := vp_cell (cA 0) (alen a, .inl (fun j => Int32.ofInt (h a j)))) (cd := vp_cell (cA 0) (alen b, .inl (fun j => Int32.ofInt (h b j)))) (srcPos := Int32.ofInt i) (destPos := Int32.ofInt j) (n := Int32.ofInt n) (by rw [hT]; exact hc0) (by rw [hT]; exact hc1)
    (fun _ h => by cases h) (fun _ h => by cases h) (fun h => by cases h) (fun h => by cases h) hk0 hk1 hkk0 hkk1 (by simp [refKind]) (e_nneg hi) (e_nneg hj) (e_nneg hn)
    (by show ¬ w32 i + w32 n > ((arrV (cA 0) (alen a) _).slots.size : Int); rw [arrV_size]; omega)
    (by show ¬ w32 j + w32 n > ((arrV (cA 0) (alen b) _).slots.size : Int); rw [arrV_size]; omega)
    (fun vm₁ _ x hx => by
      rw [en] at hx
      have e9 : (vp_cell (cA 0) (alen a, .inl (fun j => Int32.ofInt (h a j)))).slots.getD ((Int32.ofInt i).toNatClampNeg + x) .null = .int (Int32.ofInt (h a (((Int32.ofInt i).toNatClampNeg + x : Nat) : Int))) := by
        show (arrV (cA 0) (alen a) (fun j => .int (Int32.ofInt (h a j)))).slots.getD _ _ = _
        rw [Array.getD_eq_getD_getElem?, arrV_read _ _ (by rw [ei]; omega)]
        rfl
      refine ⟨?_, ?_⟩
      · rw [e9]
        rfl
      · rw [e9]
        exact trivial)
    (g := F0 m pc l9 (.int (Int32.ofInt n) :: .int (Int32.ofInt j) :: .ref (ad b) :: .int (Int32.ofInt i) :: .ref (ad a) :: st.map (mv ad))) rfl (by rw [F.2.2.1]; exact hL.1) (rest := st.map (mv ad)) rfl (by rw [F.2.1]; exact hd) (by omega) (by rw [mv_cats, show nativeFrameWords "java/lang/System" "arraycopy" 5 = 7 from by decide]; show 2 * 0 + _ + (7 + 11) ≤ _; omega)
  have e1 : copied (vp_cell (cA 0) (alen a, .inl (fun j => Int32.ofInt (h a j)))) (vp_cell (cA 0) (alen b, .inl (fun j => Int32.ofInt (h b j)))) (Int32.ofInt i) (Int32.ofInt j) (Int32.ofInt n) = vp_cell (cA 0) (alen b, .inl (va_cpy (fun j : Nat => Int32.ofInt (h a j)) (fun j : Nat => Int32.ofInt (h b j)) (Int32.ofInt i).toNatClampNeg (Int32.ofInt j).toNatClampNeg (Int32.ofInt n).toNatClampNeg)) := va_copied (fun z : Int32 => Value.int z) (cA 0) (cA 0) (fun j : Nat => Int32.ofInt (h a j)) (fun j : Nat => Int32.ofInt (h b j)) (by rw [ei, en]; omega)
  have e2 : va_cpy (fun j : Nat => Int32.ofInt (h a j)) (fun j : Nat => Int32.ofInt (h b j)) (Int32.ofInt i).toNatClampNeg (Int32.ofInt j).toNatClampNeg (Int32.ofInt n).toNatClampNeg = (fun x : Nat => Int32.ofInt (cpyH h a (w32 i) b (w32 j) (w32 n) b x)) := by
    funext x
    unfold va_cpy cpyH
    rw [ei, ej, en, if_pos rfl]
    by_cases q9 : (w32 j).toNat ≤ x ∧ x < (w32 j).toNat + (w32 n).toNat
    · rw [if_pos q9, if_pos (by omega)]
      refine congrArg (fun y => Int32.ofInt (h a y)) ?_
      omega
    · rw [if_neg q9, if_neg (by omega)]
  rw [e2] at e1
  rw [e1] at X' step
  have hl : ad b < H.size := (Array.getElem?_eq_some_iff.mp hc1).1
  have hheap : ((T.setVm vm').setCell (ad b) (vp_cell (cA 0) (alen b, .inl (fun x : Nat => Int32.ofInt (cpyH h a (w32 i) b (w32 j) (w32 n) b x))))).heap = H.setIfInBounds (ad b) (vp_cell (cA 0) (alen b, .inl (fun x : Nat => Int32.ofInt (cpyH h a (w32 i) b (w32 j) (w32 n) b x)))) := by rw [← hT]; rfl
  have oq : ∀ q : Nat, q ≠ ad b → (H.setIfInBounds (ad b) (vp_cell (cA 0) (alen b, .inl (fun x : Nat => Int32.ofInt (cpyH h a (w32 i) b (w32 j) (w32 n) b x)))))[q]? = H[q]? := fun q hq => by simp [Array.getElem?_setIfInBounds, Ne.symm hq]
  have ea : ad ((b.toNat : Nat) : Int) = ad b := by rw [(isO_spec hb).2.2.1]
  have hA := ad_A had hb hH.2.1
  obtain ⟨t, a1, b1⟩ := k _ _ l9 (HI_set had hH (h' := cpyH h a (w32 i) b (w32 j) (w32 n)) (g' := g) (a := b.toNat) (H1 := H.setIfInBounds (ad b) (vp_cell (cA 0) (alen b, .inl (fun x : Nat => Int32.ofInt (cpyH h a (w32 i) b (w32 j) (w32 n) b x))))) (isO_spec hb).2.1 rfl (fun x _ hx => cellE_congr (fun y => by unfold cpyH; rw [if_neg (ne_of_toNat (isO_spec hb).1 hx)]) (fun _ => rfl)) (by
      rw [cellE_I hb, ea]
      show (H.setIfInBounds (ad b) _)[ad b]? = some _
      simp [Array.getElem?_setIfInBounds, hl]) (by simp) (by rw [ea]; exact oq)) ⟨by simp; exact hS.1, fun q g1 g2 => by
      rw [oq q (fun e => g2 (by rw [e]; exact hA))]
      exact hS.2.1 q g1 g2, fun q hq => by
      rcases List.mem_append.mp hq with h | h
      · exact hS.2.2 q h
      · obtain ⟨z, -, hz⟩ := List.mem_map.mp h
        rw [← hz]
        exact hA⟩ hL _ hheap X'
  exact ⟨t, step t a1, b1⟩

end FRE
end
section
/-! ===== a frame of method mi at a place of the plain machine: int[][], calls, ends ===== -/
theorem sl_rows {n x k : Nat} (h1 : n + x < nCell) (hs : shL.getD n (99, 0) = (16, x)) (hr : ∀ j, j < x → shL.getD (n + 1 + j) (99, 0) = (10, k)) : ∀ j, j ≤ x → sl (n + 1 + j) = sl n + x + j * k := by
  intro j
  induction j with
  | zero =>
    intro _
    have := sl_succ (n := n) (by omega)
    rw [hs] at this
    simpa using this
  | succ j ih =>
    intro hj
    have h2 := sl_succ (n := n + 1 + j) (by omega)
    rw [hr j (by omega)] at h2
    have h3 := ih (by omega)
    have h4 : (j + 1) * k = j * k + k := Nat.succ_mul j k
    show sl (n + 1 + j + 1) = _
    omega
/-- a contract's start and end -/
def PcM (base : Nat) (ad : Int → Nat) (z : Int → Int) (cA : Nat → ClassId) (D : va_G) (av : List PV) (h : PH) (g : PG) : Array Value → State → Prop := va_Pc (av.map (mv ad)) (fun U => HI base ad cA D U.heap h g ∧ KB base ad z cA D U U.heap ∧ base ≤ U.heap.size)
def QcM (base : Nat) (ad : Int → Nat) (cA : Nat → ClassId) (D : va_G) (v : Option PV) (h : PH) (g : PG) : Array Value → State → Outcome → State → Prop := fun _ st o t => o = .returned (v.map (mv ad)) ∧ HI base ad cA D t.heap h g ∧ va_F (ZA base) st t
def wsM (m : Nat) : List Cond := .code (mY m) (mC m) (mL m) (mR m) :: WB
def rmM (m mc ms : Nat) : Room := { frames := mF m, cells := mc, slots := ms, locals := mW m }
theorem wc_get {m : Nat} (hm : m < nMeth) : Cond.code (mY m) (mC m) (mL m) (mR m) ∈ WB := by
  have h1 := congrArg (fun l => l[m]?) wc_all
  simp only [List.getElem?_map, List.getElem?_take] at h1
  rw [if_pos hm] at h1
  have hl : m < mTab.length := Nat.lt_of_lt_of_le hm (by decide +kernel)
  rw [List.getElem?_eq_getElem hl] at h1
  cases hw : wTab[m]? with
  | none => rw [hw] at h1; cases h1
  | some q =>
    rw [hw] at h1
    have h2 : lw_tbl[q.1]? = some (Cond.code mTab[m].1 mTab[m].2.1 mTab[m].2.2.1 mTab[m].2.2.2.1) := Option.some.inj h1
    have e : mRow m = mTab[m] := by
      unfold mRow
      rw [List.getD_eq_getElem?_getD, List.getElem?_eq_getElem hl]
      rfl
    unfold mY mC mL mR
    rw [e]
    exact WB_in h2 rfl
theorem mw_get {m : Nat} (hm : m < nMeth) : (if mK m = 1 then Cond.static (mY m) else .instanceMethod (mY m)) ∈ WB ∧ (mK m = 0 → Cond.selects (mY m).cls (mY m) (mY m) ∈ WB) ∧ Cond.initialized (mY m).cls ∈ WB := by
  have h1 := List.all_eq_true.mp mw_all m (List.mem_range.mpr hm)
  unfold mwOk at h1
  cases hw : wTab[m]? with
  | none => rw [hw] at h1; cases h1
  | some q =>
    rw [hw] at h1
    simp only [Bool.and_eq_true, decide_eq_true_eq] at h1
    obtain ⟨a1, a2, a3⟩ := h1
    refine ⟨WB_in a1 ?_, fun h0 => WB_in (a2 h0) rfl, WB_in a3 rfl⟩
    by_cases h9 : mK m = 1
    · rw [if_pos h9]; rfl
    · rw [if_neg h9]; rfl
theorem md_get {m : Nat} (hm : m < nMeth) : (parseMethodDescriptor (mY m).desc).map (fun d => d.parameters.length) = some (if mK m = 1 then mN m else mN m - 1) ∧ (1 ≤ mN m ∨ mK m = 1) ∧ ((mY m).cls ≠ "java/lang/invoke/MethodHandle" ∧ (mY m).cls ≠ "java/lang/invoke/VarHandle") ∧ plainName (mY m).cls = true ∧ (mY m).cls = oN (mO m) ∧ (mK m = 2 ↔ (mY m).name = "<init>") ∧ (mK m = 2 → mR m = none) := by
  have h1 := List.all_eq_true.mp md_all m (List.mem_range.mpr hm)
  unfold mdOk at h1
  simpa only [Bool.and_eq_true, decide_eq_true_eq] using h1
theorem nestV_all : mthL.all (fun e => decide (mK e.2.2.1 = 0 → ¬ e.2.2.2.1 = 1)) = true := by decide +kernel
theorem mthT_spec {o i m b : Nat} (h : mthT o i = some (m, b)) : m < nMeth ∧ (b = 1 → mK m ≠ 0 ∧ ∃ e ∈ mthL, e.2.2.2.1 = 1 ∧ isNestM e = .methodLinkNest (oN o) i (mY m) RX7) ∧ (¬ b = 1 → Cond.methodLink (oN o) i (mY m) ∈ WB) := by
  unfold mthT at h
  cases hf : mthL.find? (fun e => e.1 == o && e.2.1 == i) with
  | none => rw [hf] at h; cases h
  | some e =>
    rw [hf] at h
    cases h
    have h1 := List.mem_of_find?_eq_some hf
    have h2 := List.find?_some hf
    simp only [Bool.and_eq_true, beq_iff_eq] at h2
    have h3 := List.all_eq_true.mp mth_all e h1
    simp only [Bool.and_eq_true, decide_eq_true_eq] at h3
    have h4 := List.all_eq_true.mp nestV_all e h1
    simp only [decide_eq_true_eq] at h4
    refine ⟨h3.2, fun hb => ⟨fun q => h4 q hb, e, h1, hb, ?_⟩, fun hb => ?_⟩
    · unfold isNestM
      rw [h2.1, h2.2]
    · have h5 := h3.1
      rw [if_neg hb] at h5
      unfold isPlainM at h5
      rw [h2.1, h2.2] at h5
      exact WB_in h5 rfl
theorem wsM_in {m : Nat} (hm : m < nMeth) : ∀ w ∈ wsM m, w ∈ WB := fun w hw => (List.mem_cons.mp hw).elim (fun e => by rw [e]; exact wc_get hm) (fun h => h)
section FRF
variable {base : Nat} {ad : Int → Nat} {z : Int → Int} {cA : Nat → ClassId} {D : va_G} {n0 mi : Nat} {p : Program} {l : Launch} {e : Env} {R : Room} {s : State} {m : MethodId} {args : Array Value} {below : List Frame} {meth : Method} {c : Code} {Q : State → Prop}
variable {pc : Nat} {ls : PL} {st : List PV} {h : PH} {g : PG}
theorem s_multi {i : Nat} {x k : Int} (F : FO base ad z cA D p s m args meth c mi) (hd : decode (mC mi) pc = .ok (.multianewarray i 2, 4)) (hc : clsT (mO mi) i = some 16) (hx0 : 0 ≤ x) (hx1 : x ≤ 100) (hk0 : 0 ≤ k) (hk1 : k ≤ 100) (hn : g.1 + x.toNat < nCell) (hs : shL.getD g.1 (99, 0) = (16, x.toNat)) (hrows : ∀ j, j < x.toNat → shL.getD (g.1 + 1 + j) (99, 0) = (10, k.toNat)) (hn0 : n0 ≤ g.1) (r1 : g.1 + 1 + x.toNat - n0 ≤ R.cells) (r2 : sl (g.1 + 1 + x.toNat) - sl n0 ≤ R.slots)
    {h' : PH} {r' : Int → Int → Int} (eh : h' = fun b j => if (g.1 : Int) ≤ b ∧ b ≤ g.1 + x then 0 else h b j) (er : r' = fun b j => if b = (g.1 : Int) then (if 0 ≤ j ∧ j < x then g.1 + 1 + j else -1) else if (g.1 : Int) < b ∧ b ≤ g.1 + x then -1 else g.2 b j)
    (kk : WG base ad cA D n0 mi p l e R s m args below meth c Q (pc + 4, ls, .inr (.inr (g.1 : Int)) :: st, h', (g.1 + 1 + x.toNat, r'))) : WG base ad cA D n0 mi p l e R s m args below meth c Q (pc, ls, .inl k :: .inl x :: st, h, g) := fun H locs l9 hH hS hL => by
  have had : AdOK base ad := F.2.2.2.2.2.2.2.2.2.1
  have hK := s_FO.K F
  have hnc := nCell_le
  have hsl := sl_rows hn hs hrows x.toNat (Nat.le_refl _)
  have hm := sl_mono hn0 (by omega)
  have ead : ad (g.1 : Int) = H.size := by rw [hH.1, had _ (by omega) (by omega)]; simp
  have ewx : w32 x = x := e_small (by omega) (by omega)
  have ewk : w32 k = k := e_small (by omega) (by omega)
  have ecx : (Int32.ofInt x).toNatClampNeg = x.toNat := by rw [e_clamp, ewx]
  have eck : (Int32.ofInt k).toNatClampNeg = k.toNat := by rw [e_clamp, ewk]
  have hcl := F.2.2.2.2.1 _ (clsT_spec hc)
  rw [if_pos rfl] at hcl
  have hover : (Cond.arrayOver (.array .int)).before args s = true := F.2.2.2.2.2.1.1.2.2.2.2.2.2.2.2
  have harr : (Cond.arrayClass .int).before args s = true := F.2.2.2.2.1 (.arrayClass .int) (WB_in (i := pw_arI) (by decide +kernel) rfl)
  intro T hT X
  obtain ⟨vm₁, cA9, comp, -, fA, fC, hO, -, X', step⟩ := X.multianewarray2F F.1 F.2.2.2.1 hcl hover harr (g := F0 m pc l9 (.int (Int32.ofInt k) :: .int (Int32.ofInt x) :: st.map (mv ad))) rfl (by rw [F.2.1]; exact hd) rfl (e_nneg (by rw [ewx]; exact hx0)) (e_nneg (by rw [ewk]; exact hk0)) (by rw [ecx]; omega) (by rw [eck]; show k.toNat * 4 ≤ _; omega) (by rw [eck]; omega) rfl rfl (by rw [ecx]; show g.1 - n0 + (1 + x.toNat) ≤ _; omega) (by rw [ecx, eck]; show sl g.1 - sl n0 + (x.toNat + x.toNat * k.toNat) ≤ _; omega)
  rw [ecx, eck] at X' step
  generalize hF : Jvm.Free.Multi.fill (T.setVm vm₁) cA9 comp x.toNat k.toNat (defaultValue .int) x.toNat = T2 at X' step
  have hTh : (T.setVm vm₁).heap = H := hT
  obtain ⟨f1, f2, -, -⟩ := Jvm.Free.Multi.fill_facts (T.setVm vm₁) cA9 comp x.toNat k.toNat (defaultValue .int) x.toNat
  rw [hF, hTh] at f1 f2
  have hold : ∀ q : Nat, q < H.size → T2.heap[q]? = H[q]? := fun q hq => by
    have := Jvm.Free.Multi.fill_old (T.setVm vm₁) cA9 comp x.toNat k.toNat (defaultValue .int) (a := q) (by rw [hTh]; exact hq) x.toNat
    rw [hF, hTh] at this
    exact this
  have hrow : ∀ j : Nat, j < x.toNat → T2.heap[H.size + 1 + j]? = some (Jvm.Free.Multi.innerC comp k.toNat (defaultValue .int)) := fun j hj => by
    have := Jvm.Free.Multi.fill_inner (T.setVm vm₁) cA9 comp x.toNat k.toNat (defaultValue .int) x.toNat j hj
    rw [hF, hTh] at this
    exact this
  have hcI : comp = cA 0 := Option.some.inj (fC.symm.trans (hK.2 0 _ rfl).2)
  have hcA : cA9 = cA 6 := Option.some.inj (fA.symm.trans (hK.2 6 _ rfl).2)
  subst hcI
  subst hcA
  have hz : H.size = base + g.1 := hH.1
  have kh := kk T2.heap locs l9 (HI_grow (h := h) (g := g) (h' := h') (g' := (g.1 + 1 + x.toNat, r')) had hH (by show T2.heap.size = base + (g.1 + 1 + x.toNat); omega) (by show g.1 + 1 + x.toNat ≤ nCell; omega) (by show g.1 ≤ g.1 + 1 + x.toNat; omega) hold (fun b hb => cellE_congr (fun j => by rw [eh]; exact if_neg (by omega)) (fun j => by show r' b j = g.2 b j; rw [er]; show (if (b : Int) = _ then _ else _) = _; rw [if_neg (by omega), if_neg (by omega)])) (fun b h1 h2 => ?_)) (S_grow hS (by omega) hold) hL
  · obtain ⟨t, a1, b1⟩ := kh T2 rfl (by
      show Stand p l e R s m args below meth c T2 locs (g.1 + 1 + x.toNat - n0) (sl (g.1 + 1 + x.toNat) - sl n0)
      have e1 : g.1 - n0 + 1 + x.toNat = g.1 + 1 + x.toNat - n0 := by omega
      have e2 : sl g.1 - sl n0 + x.toNat + x.toNat * k.toNat = sl (g.1 + 1 + x.toNat) - sl n0 := by omega
      rw [← e1, ← e2]
      exact X')
    refine ⟨t, step t ?_, b1⟩
    have a2 : Steps p.tables e below (T2.setTop (F0 m (pc + 4) l9 (.ref (ad (g.1 : Int)) :: st.map (mv ad)))) t := a1
    rw [ead] at a2
    rw [← hT] at a2
    exact a2
  · have h2' : b < g.1 + 1 + x.toNat := h2
    by_cases hb : b = g.1
    · subst hb
      unfold cellE
      simp only [hs]
      show T2.heap[ad (g.1 : Int)]? = some (vp_cell _ _)
      rw [ead, f2, vp_cell_q, vr_out]
      refine congrArg some (congrArg (arrV _ _) (funext fun j => ?_))
      show va_rf _ = va_rf (rnv ad (r' (g.1 : Int) j))
      rw [er]
      show va_rf _ = va_rf (rnv ad (if (g.1 : Int) = g.1 then _ else _))
      rw [if_pos rfl]
      by_cases hj : j < x.toNat
      · rw [if_pos hj, if_pos (by omega), rnv, if_neg (by omega), had _ (by omega) (by omega), hz]
        congr 2
        omega
      · rw [if_neg hj, if_neg (by omega)]
        rfl
    · have hb2 : b = g.1 + 1 + (b - (g.1 + 1)) := by omega
      have hs2 := hrows (b - (g.1 + 1)) (by omega)
      rw [← hb2] at hs2
      unfold cellE
      simp only [hs2]
      show T2.heap[ad (b : Int)]? = some (vp_cell _ _)
      have eb : ad (b : Int) = H.size + 1 + (b - (g.1 + 1)) := by rw [had _ (by omega) (by omega), hz]; omega
      rw [eb, hrow _ (by omega), vp_cell_i]
      show some ({ cls := cA 0, slots := Array.replicate k.toNat _, vm := .none } : Cell) = _
      rw [arrV_new]
      refine congrArg some (congrArg (arrV _ _) (funext fun j => ?_))
      show Value.int 0 = .int (Int32.ofInt (h' b j))
      rw [eh]
      show _ = Value.int (Int32.ofInt (if _ then _ else _))
      rw [if_pos (by omega)]
      rfl
/-- behind a call -/
theorem s_back {v : Option PV} {h' : PH} {g' : PG} {rest : List PV} {H : Heap} {locs : List Loc} {l9 : Array Slot} {g9 : JFrame} {a : Array Value} (hg9 : { g9 with pc := g9.pc + 3, stack := (v.map (mv ad)).toList ++ rest.map (mv ad) } = F0 m (pc + 3) l9 ((v.toList ++ rest).map (mv ad))) (hle : n0 ≤ g.1) (hg : g.1 ≤ g'.1) (hs9 : sl n0 ≤ sl g.1) (hs8 : sl g.1 ≤ sl g'.1)
    (hr : va_Run p l e R s m args below meth c H locs (g.1 - n0) (sl g.1 - sl n0) (g'.1 - g.1) (sl g'.1 - sl g.1) g9 (rest.map (mv ad)) (QcM base ad cA D v h' g' a) (ZA base)) (hS : va_S (ZA base) s.heap H locs) (hL : LR ad (mL mi) l9 ls) (kk : WG base ad cA D n0 mi p l e R s m args below meth c Q (pc + 3, ls, v.toList ++ rest, h', g')) : W p l e R s m args below meth c H locs (g.1 - n0) (sl g.1 - sl n0) Q g9 := by
  intro T hT X
  obtain ⟨v9, st₀, t, T', L, q0, X', hLf, e1, e2, ⟨hq1, hq2, hq3⟩, stp⟩ := hr T hT X
  cases hq1
  obtain ⟨hz, hk⟩ := hq3
  rw [q0] at hz hk
  have k2 := kk T'.heap (locs ++ L) l9 (by rw [e1]; exact hq2) ⟨Nat.le_trans hS.1 (by rw [e1]; exact hz), fun q h1 h2 => by rw [e1, hk q (Nat.lt_of_lt_of_le h1 hS.1) h2]; exact hS.2.1 q h1 h2, fun q hq => by
    rcases List.mem_append.mp hq with h | h
    · exact hS.2.2 q h
    · exact hLf q h⟩ hL
  have e3 : g.1 - n0 + (g'.1 - g.1) = g'.1 - n0 := by omega
  have e4 : sl g.1 - sl n0 + (sl g'.1 - sl g.1) = sl g'.1 - sl n0 := by omega
  rw [e3, e4] at X'
  obtain ⟨t2, a1, b1⟩ := k2 T' rfl X'
  refine ⟨t2, stp t2 ?_, b1⟩
  have a2 : Steps p.tables e below (T'.setTop (F0 m (pc + 3) l9 ((v.toList ++ rest).map (mv ad)))) t2 := a1
  rw [← hg9] at a2
  exact a2
theorem PcM_blind (av : List PV) (h : PH) (g : PG) : FrameBlind (PcM base ad z cA D av h g) := fun _ _ _ _ q => ⟨q.1, q.2.1, KB.same rfl q.2.2.1, q.2.2.2⟩
theorem PcM_at {H : Heap} {locs : List Loc} (F : FO base ad z cA D p s m args meth c mi) (hH : HI base ad cA D H h g) (hS : va_S (ZA base) s.heap H locs) (av : List PV) : ∀ U : State, U.heap = H → s.WarmedH U.vm → PcM base ad z cA D av h g (av.map (mv ad)).toArray U := fun U hU hW => ⟨rfl, by rw [hU]; exact hH, KB.warm hW F.2.2.2.2.2.1 (fun a ha hn => by rw [hU]; exact hS.2.1 a ha hn), by rw [hU]; exact Nat.le_trans F.2.2.2.2.2.2.2.2.2.2 hS.1⟩
/-- a call of a static method -/
theorem s_callS {i m' b : Nat} {av rest : List PV} {v : Option PV} {h' : PH} {g' : PG} (F : FO base ad z cA D p s m args meth c mi) (hd : decode (mC mi) pc = .ok (.invokestatic i, 3)) (hm : mthT (mO mi) i = some (m', b)) (hK1 : mK m' = 1) (hav : av.length = mN m') (hst : st = av.reverse ++ rest) (hrest : pcats rest ≤ 8) (hF : mF m' + 1 ≤ R.frames) (hW : 8 + (mL m' + 11) + mW m' ≤ R.locals) (hle : n0 ≤ g.1) (hg : g.1 ≤ g'.1) (hgn : g'.1 ≤ nCell) (r1 : g'.1 - n0 ≤ R.cells) (r2 : sl g'.1 - sl n0 ≤ R.slots)
    (hM : Met l (mY m') (wsM m') (rmM m' (g'.1 - g.1) (sl g'.1 - sl g.1)) (PcM base ad z cA D av h g) (QcM base ad cA D v h' g') (g'.1 - g.1) (sl g'.1 - sl g.1) (ZA base)) (kk : WG base ad cA D n0 mi p l e R s m args below meth c Q (pc + 3, ls, v.toList ++ rest, h', g')) : WG base ad cA D n0 mi p l e R s m args below meth c Q (pc, ls, st, h, g) := fun H locs l9 hH hS hL => by
  have s1 := sl_mono hle hH.2.1
  have s2 := sl_mono hg hgn
  have q1 : g.1 - n0 + (g'.1 - g.1) ≤ R.cells := by omega
  have q2 : sl g.1 - sl n0 + (sl g'.1 - sl g.1) ≤ R.slots := by omega
  have q3 : av.length = mN m' - 1 ∨ mK m' = 1 := by omega
  obtain ⟨hm1, hm2, hm3⟩ := mthT_spec hm
  obtain ⟨w1, -, w3⟩ := mw_get hm1
  rw [if_pos hK1] at w1
  obtain ⟨d1, -, d3, -⟩ := md_get hm1
  rw [if_pos hK1] at d1
  have hstk : (F0 m pc l9 (st.map (mv ad))).stack = (av.map (mv ad)).reverse ++ rest.map (mv ad) := by
    show st.map (mv ad) = _
    rw [hst, List.map_append, List.map_reverse]
  refine s_back (g := g) (pc := pc) (a := (av.map (mv ad)).toArray) (g9 := F0 m pc l9 (st.map (mv ad))) (by cases v <;> rfl) hle hg s1 s2 ?_ hS hL kk
  by_cases hb : b = 1
  · obtain ⟨-, e9, he, he1, he2⟩ := hm2 hb
    have hn9 := F.2.2.2.2.2.1.1.2.2.1 e9 he he1
    rw [he2] at hn9
    exact va_runSN ⟨F.1, F.2.1, F.2.2.1, F.2.2.2.1, F.2.2.2.2.1⟩ hM ⟨va_cnB (mN m') F.2.2.2.2.1 (good_WB (wsM_in hm1)) rfl rfl rfl hn9 (F.2.2.2.2.1 _ w3) ⟨d3.1, d3.2, d1⟩ ⟨hF, hW⟩, F.2.2.2.2.1 _ w1, trivial⟩ ⟨PcM_blind av h g, PcM_at F hH hS av⟩ rfl (by rw [List.length_map]; exact hav) hL.1 hstk (lv_room (by rw [mv_cats]; exact hrest)) hd ⟨q1, q2⟩
  · exact va_runS ⟨F.1, F.2.1, F.2.2.1, F.2.2.2.1, F.2.2.2.2.1⟩ hM (va_cwS (mN m') F.2.2.2.2.1 (good_WB (fun w hw => by
      rcases List.mem_append.mp hw with hw | hw
      · simp only [List.mem_cons, List.not_mem_nil, or_false] at hw
        rcases hw with rfl | rfl | rfl
        · exact hm3 hb
        · exact w1
        · exact w3
      · exact wsM_in hm1 w hw)) rfl rfl rfl ⟨d3.1, d3.2, d1⟩ ⟨hF, hW⟩) ⟨PcM_blind av h g, PcM_at F hH hS av⟩ rfl (by rw [List.length_map]; exact hav) hL.1 hstk (lv_room (by rw [mv_cats]; exact hrest)) hd ⟨q1, q2⟩
/-- a call of a constructor -/
theorem s_callI {i m' b : Nat} {a : Int} {av rest : List PV} {v : Option PV} {h' : PH} {g' : PG} (F : FO base ad z cA D p s m args meth c mi) (hd : decode (mC mi) pc = .ok (.invokespecial i, 3)) (hm : mthT (mO mi) i = some (m', b)) (hK1 : mK m' = 2) (hav : av.length + 1 = mN m') (hst : st = av.reverse ++ .inr (.inr a) :: rest) (hrest : pcats rest ≤ 8) (hF : mF m' + 1 ≤ R.frames) (hW : 8 + (mL m' + 11) + mW m' ≤ R.locals) (hle : n0 ≤ g.1) (hg : g.1 ≤ g'.1) (hgn : g'.1 ≤ nCell) (r1 : g'.1 - n0 ≤ R.cells) (r2 : sl g'.1 - sl n0 ≤ R.slots)
    (hM : Met l (mY m') (wsM m') (rmM m' (g'.1 - g.1) (sl g'.1 - sl g.1)) (PcM base ad z cA D (.inr (.inr a) :: av) h g) (QcM base ad cA D v h' g') (g'.1 - g.1) (sl g'.1 - sl g.1) (ZA base)) (kk : WG base ad cA D n0 mi p l e R s m args below meth c Q (pc + 3, ls, v.toList ++ rest, h', g')) : WG base ad cA D n0 mi p l e R s m args below meth c Q (pc, ls, st, h, g) := fun H locs l9 hH hS hL => by
  have s1 := sl_mono hle hH.2.1
  have s2 := sl_mono hg hgn
  have q1 : g.1 - n0 + (g'.1 - g.1) ≤ R.cells := by omega
  have q2 : sl g.1 - sl n0 + (sl g'.1 - sl g.1) ≤ R.slots := by omega
  have q3 : av.length = mN m' - 1 ∨ mK m' = 1 := by omega
  obtain ⟨hm1, hm2, hm3⟩ := mthT_spec hm
  obtain ⟨w1, -, w3⟩ := mw_get hm1
  rw [if_neg (by omega)] at w1
  obtain ⟨d1, -, d3, -, -, d6, d7⟩ := md_get hm1
  rw [if_neg (by omega)] at d1
  have hini := d6.mp hK1
  have hret := d7 hK1
  have hww : wsM m' = Cond.code (mY m') (mC m') (mL m') none :: WB := by rw [← hret]; rfl
  have hstk : (F0 m pc l9 (st.map (mv ad))).stack = (av.map (mv ad)).reverse ++ .ref (ad a) :: rest.map (mv ad) := by
    show st.map (mv ad) = _
    rw [hst, List.map_append, List.map_reverse]
    rfl
  refine s_back (g := g) (pc := pc) (a := (((.inr (.inr a)) :: av).map (mv ad)).toArray) (g9 := F0 m pc l9 (st.map (mv ad))) (by cases v <;> rfl) hle hg s1 s2 ?_ hS hL kk
  by_cases hb : b = 1
  · obtain ⟨-, e9, he, he1, he2⟩ := hm2 hb
    have hn9 := F.2.2.2.2.2.1.1.2.2.1 e9 he he1
    rw [he2] at hn9
    exact va_runIN (As := av.map (mv ad)) (b := ad a) ⟨F.1, F.2.1, F.2.2.1, F.2.2.2.1, F.2.2.2.2.1⟩ hM ⟨va_cnB (mN m' - 1) F.2.2.2.2.1 (good_WB (wsM_in hm1)) hww rfl rfl hn9 (F.2.2.2.2.1 _ w3) ⟨d3.1, d3.2, d1⟩ ⟨hF, hW⟩, hini, F.2.2.2.2.1 _ w1⟩ ⟨PcM_blind _ h g, PcM_at F hH hS _⟩ rfl (by rw [List.length_map]; exact q3.resolve_right (fun q => by rw [hK1] at q; cases q)) hL.1 hstk (lv_room (by rw [mv_cats]; exact hrest)) hd ⟨q1, q2⟩
  · exact va_runI (As := av.map (mv ad)) (b := ad a) ⟨F.1, F.2.1, F.2.2.1, F.2.2.2.1, F.2.2.2.2.1⟩ hM (cwI (mN m' - 1) F.2.2.2.2.1 (good_WB (wsM_in hm1)) hww rfl rfl (F.2.2.2.2.1 _ w3) (F.2.2.2.2.1 _ (hm3 hb)) (F.2.2.2.2.1 _ w1) hini ⟨d3.1, d3.2, d1⟩ ⟨hF, hW⟩) ⟨PcM_blind _ h g, PcM_at F hH hS _⟩ rfl (by rw [List.length_map]; exact q3.resolve_right (fun q => by rw [hK1] at q; cases q)) hL.1 hstk (lv_room (by rw [mv_cats]; exact hrest)) hd ⟨q1, q2⟩
/-- a call of an object's method -/
theorem s_callV {i m' b : Nat} {a : Int} {av rest : List PV} {v : Option PV} {h' : PH} {g' : PG} (F : FO base ad z cA D p s m args meth c mi) (hd : decode (mC mi) pc = .ok (.invokevirtual i, 3)) (hm : mthT (mO mi) i = some (m', b)) (hK1 : mK m' = 0) (hrc : isRecv a m' g.1 = true) (hav : av.length + 1 = mN m') (hst : st = av.reverse ++ .inr (.inr a) :: rest) (hrest : pcats rest ≤ 8) (hF : mF m' + 1 ≤ R.frames) (hW : 8 + (mL m' + 11) + mW m' ≤ R.locals) (hle : n0 ≤ g.1) (hg : g.1 ≤ g'.1) (hgn : g'.1 ≤ nCell) (r1 : g'.1 - n0 ≤ R.cells) (r2 : sl g'.1 - sl n0 ≤ R.slots)
    (hM : Met l (mY m') (wsM m') (rmM m' (g'.1 - g.1) (sl g'.1 - sl g.1)) (PcM base ad z cA D (.inr (.inr a) :: av) h g) (QcM base ad cA D v h' g') (g'.1 - g.1) (sl g'.1 - sl g.1) (ZA base)) (kk : WG base ad cA D n0 mi p l e R s m args below meth c Q (pc + 3, ls, v.toList ++ rest, h', g')) : WG base ad cA D n0 mi p l e R s m args below meth c Q (pc, ls, st, h, g) := fun H locs l9 hH hS hL => by
  have s1 := sl_mono hle hH.2.1
  have s2 := sl_mono hg hgn
  have q1 : g.1 - n0 + (g'.1 - g.1) ≤ R.cells := by omega
  have q2 : sl g.1 - sl n0 + (sl g'.1 - sl g.1) ≤ R.slots := by omega
  have q3 : av.length = mN m' - 1 ∨ mK m' = 1 := by omega
  obtain ⟨hm1, hm2, hm3⟩ := mthT_spec hm
  obtain ⟨w1, w2, w3⟩ := mw_get hm1
  rw [if_neg (by omega)] at w1
  have w2 := w2 hK1
  obtain ⟨d1, -, d3, -, d5, -⟩ := md_get hm1
  rw [if_neg (by omega)] at d1
  have hb : ¬ b = 1 := fun hb => (hm2 hb).1 hK1
  have hstk : (F0 m pc l9 (st.map (mv ad))).stack = (av.map (mv ad)).reverse ++ .ref (ad a) :: rest.map (mv ad) := by
    show st.map (mv ad) = _
    rw [hst, List.map_append, List.map_reverse]
    rfl
  have hrecv : ∃ cell : Cell, H[ad a]? = some cell ∧ cell.vm.isStatics = false ∧ s.vm.findClass (mY m').cls = some cell.cls := by
    unfold isRecv at hrc
    simp only [Bool.or_eq_true, Bool.and_eq_true, decide_eq_true_eq] at hrc
    rw [d5]
    rcases hrc with ⟨h9, ho⟩ | ⟨h12, ha1, ha2⟩
    · obtain ⟨r, hr, hrd, -⟩ := cl_get h9
      have q := va_recv (s_FO.K F) hH.2.2 hr (WS_at ho (cellE_O ho h9))
      rw [own_cl h9, hrd]
      exact q
    · have q := (F.2.2.2.2.2.1.2.1.2.2.2.2.2.2 (a - 1010).toNat (by omega)).1.kept hS.2.1
      obtain ⟨cell, q1, q2, q3, -⟩ := q
      rw [show (1010 : Int) + ((a - 1010).toNat : Int) = a by omega] at q1
      exact ⟨cell, q1, q2, by rw [h12]; exact q3⟩
  refine s_back (g := g) (pc := pc) (a := (((.inr (.inr a)) :: av).map (mv ad)).toArray) (g9 := F0 m pc l9 (st.map (mv ad))) (by cases v <;> rfl) hle hg s1 s2 ?_ hS hL kk
  exact va_runV (C := (mY m').cls) (As := av.map (mv ad)) (b := ad a) ⟨F.1, F.2.1, F.2.2.1, F.2.2.2.1, F.2.2.2.2.1⟩ hM (cwV (mN m' - 1) F.2.2.2.2.1 (good_WB (fun w hw => by
      rcases List.mem_append.mp hw with hw | hw
      · simp only [List.mem_cons, List.not_mem_nil, or_false] at hw
        rcases hw with rfl | rfl | rfl | rfl
        · exact hm3 hb
        · exact w1
        · exact w2
        · exact w3
      · exact wsM_in hm1 w hw)) rfl rfl rfl ⟨rfl, d3.1, d3.2, d1⟩ ⟨hF, hW⟩) ⟨PcM_blind _ h g, hrecv, PcM_at F hH hS _⟩ rfl (by rw [List.length_map]; exact q3.resolve_right (fun q => by rw [hK1] at q; cases q)) hL.1 hstk (lv_room (by rw [mv_cats]; exact hrest)) hd ⟨q1, q2⟩

end FRF
end
section
/-! ===== every step of the plain machine is a step of the machine ===== -/
theorem inl_inj {k k' : Cfg} (h : (some (.inl k) : Option SR) = some (.inl k')) : k = k' := Sum.inl.inj (Option.some.inj h)

theorem i_bI {f : Int → Int → Int} {pc : Nat} {ls : PL} {st : List PV} {h : PH} {g : PG} {k : Cfg} (hx : bI f pc ls st h g = some (.inl k)) : ∃ x y s2, st = .inl y :: .inl x :: s2 ∧ k = (pc + 1, ls, .inl (f x y) :: s2, h, g) := by
  unfold bI at hx
  split at hx
  · exact ⟨_, _, _, rfl, (inl_inj hx).symm⟩
  · cases hx
theorem i_bL {f : Int → Int → Int} {pc : Nat} {ls : PL} {st : List PV} {h : PH} {g : PG} {k : Cfg} (hx : bL f pc ls st h g = some (.inl k)) : ∃ x y s2, st = .inr (.inl y) :: .inr (.inl x) :: s2 ∧ k = (pc + 1, ls, .inr (.inl (f x y)) :: s2, h, g) := by
  unfold bL at hx
  split at hx
  · exact ⟨_, _, _, rfl, (inl_inj hx).symm⟩
  · cases hx
theorem i_qI {f : Int → Int → Int} {pc : Nat} {ls : PL} {st : List PV} {h : PH} {g : PG} {k : Cfg} (hx : qI f pc ls st h g = some (.inl k)) : ∃ x y s2, st = .inl y :: .inl x :: s2 ∧ ¬ w32 y = 0 ∧ k = (pc + 1, ls, .inl (f x y) :: s2, h, g) := by
  unfold qI at hx
  split at hx
  · split at hx
    · cases hx
    · rename_i h0
      exact ⟨_, _, _, rfl, h0, (inl_inj hx).symm⟩
  · cases hx
theorem i_qL {f : Int → Int → Int} {pc : Nat} {ls : PL} {st : List PV} {h : PH} {g : PG} {k : Cfg} (hx : qL f pc ls st h g = some (.inl k)) : ∃ x y s2, st = .inr (.inl y) :: .inr (.inl x) :: s2 ∧ ¬ w64 y = 0 ∧ k = (pc + 1, ls, .inr (.inl (f x y)) :: s2, h, g) := by
  unfold qL at hx
  split at hx
  · split at hx
    · cases hx
    · rename_i h0
      exact ⟨_, _, _, rfl, h0, (inl_inj hx).symm⟩
  · cases hx
theorem i_uI {f : Int → Int} {pc : Nat} {ls : PL} {st : List PV} {h : PH} {g : PG} {k : Cfg} (hx : uI f pc ls st h g = some (.inl k)) : ∃ x s2, st = .inl x :: s2 ∧ k = (pc + 1, ls, .inl (f x) :: s2, h, g) := by
  unfold uI at hx
  split at hx
  · exact ⟨_, _, rfl, (inl_inj hx).symm⟩
  · cases hx
theorem i_i2lI {pc : Nat} {ls : PL} {st : List PV} {h : PH} {g : PG} {k : Cfg} (hx : i2lI pc ls st h g = some (.inl k)) : ∃ x s2, st = .inl x :: s2 ∧ k = (pc + 1, ls, .inr (.inl (w32 x)) :: s2, h, g) := by
  unfold i2lI at hx
  split at hx
  · exact ⟨_, _, rfl, (inl_inj hx).symm⟩
  · cases hx
theorem i_l2iI {pc : Nat} {ls : PL} {st : List PV} {h : PH} {g : PG} {k : Cfg} (hx : l2iI pc ls st h g = some (.inl k)) : ∃ x s2, st = .inr (.inl x) :: s2 ∧ k = (pc + 1, ls, .inl x :: s2, h, g) := by
  unfold l2iI at hx
  split at hx
  · exact ⟨_, _, rfl, (inl_inj hx).symm⟩
  · cases hx
theorem i_negL {pc : Nat} {ls : PL} {st : List PV} {h : PH} {g : PG} {k : Cfg} (hx : negL pc ls st h g = some (.inl k)) : ∃ x s2, st = .inr (.inl x) :: s2 ∧ k = (pc + 1, ls, .inr (.inl (-x)) :: s2, h, g) := by
  unfold negL at hx
  split at hx
  · exact ⟨_, _, rfl, (inl_inj hx).symm⟩
  · cases hx
theorem i_lcmpI {pc : Nat} {ls : PL} {st : List PV} {h : PH} {g : PG} {k : Cfg} (hx : lcmpI pc ls st h g = some (.inl k)) : ∃ x y s2, st = .inr (.inl y) :: .inr (.inl x) :: s2 ∧ k = (pc + 1, ls, .inl (cmpL x y) :: s2, h, g) := by
  unfold lcmpI at hx
  split at hx
  · exact ⟨_, _, _, rfl, (inl_inj hx).symm⟩
  · cases hx
theorem i_dup1 {pc : Nat} {ls : PL} {st : List PV} {h : PH} {g : PG} {k : Cfg} (hx : dup1 pc ls st h g = some (.inl k)) : ∃ v s2, st = v :: s2 ∧ pcat v = 1 ∧ k = (pc + 1, ls, v :: v :: s2, h, g) := by
  unfold dup1 at hx
  split at hx
  · split at hx
    · rename_i h0
      exact ⟨_, _, rfl, h0, (inl_inj hx).symm⟩
    · cases hx
  · cases hx
theorem i_pop1 {pc : Nat} {ls : PL} {st : List PV} {h : PH} {g : PG} {k : Cfg} (hx : pop1 pc ls st h g = some (.inl k)) : ∃ v s2, st = v :: s2 ∧ pcat v = 1 ∧ k = (pc + 1, ls, s2, h, g) := by
  unfold pop1 at hx
  split at hx
  · split at hx
    · rename_i h0
      exact ⟨_, _, rfl, h0, (inl_inj hx).symm⟩
    · cases hx
  · cases hx
theorem i_pop22 {pc : Nat} {ls : PL} {st : List PV} {h : PH} {g : PG} {k : Cfg} (hx : pop22 pc ls st h g = some (.inl k)) : ∃ v s2, st = v :: s2 ∧ pcat v = 2 ∧ k = (pc + 1, ls, s2, h, g) := by
  unfold pop22 at hx
  split at hx
  · split at hx
    · rename_i h0
      exact ⟨_, _, rfl, h0, (inl_inj hx).symm⟩
    · cases hx
  · cases hx
theorem i_dup2 {pc : Nat} {ls : PL} {st : List PV} {h : PH} {g : PG} {k : Cfg} (hx : dup2 pc ls st h g = some (.inl k)) : ∃ v w s2, st = v :: w :: s2 ∧ pcat v = 1 ∧ pcat w = 1 ∧ k = (pc + 1, ls, v :: w :: v :: w :: s2, h, g) := by
  unfold dup2 at hx
  split at hx
  · split at hx
    · rename_i h0
      exact ⟨_, _, _, rfl, h0.1, h0.2, (inl_inj hx).symm⟩
    · cases hx
  · cases hx
theorem i_dupx {pc : Nat} {ls : PL} {st : List PV} {h : PH} {g : PG} {k : Cfg} (hx : dupx pc ls st h g = some (.inl k)) : ∃ v w s2, st = v :: w :: s2 ∧ pcat v = 1 ∧ pcat w = 1 ∧ k = (pc + 1, ls, v :: w :: v :: s2, h, g) := by
  unfold dupx at hx
  split at hx
  · split at hx
    · rename_i h0
      exact ⟨_, _, _, rfl, h0.1, h0.2, (inl_inj hx).symm⟩
    · cases hx
  · cases hx
theorem i_jmp {off : Int} {pc : Nat} {ls : PL} {st : List PV} {h : PH} {g : PG} {k : Cfg} (hx : jmp pc off ls st h g = some (.inl k)) : 0 ≤ (pc : Int) + off ∧ k = (tgtOf pc off, ls, st, h, g) := by
  unfold jmp at hx
  split at hx
  · rename_i h0
    exact ⟨h0, (inl_inj hx).symm⟩
  · cases hx
theorem i_jc {q : ClassFile.Cond} {x y off : Int} {pc : Nat} {ls : PL} {st : List PV} {h : PH} {g : PG} {k : Cfg} (hx : jc q x y pc off ls st h g = some (.inl k)) : 0 ≤ (pc : Int) + off ∧ ((ccmp q x y = true ∧ k = (tgtOf pc off, ls, st, h, g)) ∨ (ccmp q x y = false ∧ k = (pc + 3, ls, st, h, g))) := by
  unfold jc at hx
  split at hx
  · rename_i h0
    split at hx
    · rename_i h1
      exact ⟨h0, Or.inl ⟨h1, (inl_inj hx).symm⟩⟩
    · rename_i h1
      exact ⟨h0, Or.inr ⟨nft h1, (inl_inj hx).symm⟩⟩
  · cases hx
theorem i_ldv {i len k9 : Nat} {pc : Nat} {ls : PL} {st : List PV} {h : PH} {g : PG} {k : Cfg} (hx : ldv i len pc k9 ls st h g = some (.inl k)) : (∃ x, k9 = 0 ∧ lget ls i = some (.inl x) ∧ k = (pc + len, ls, .inl x :: st, h, g)) ∨ (∃ x, k9 = 1 ∧ lget ls i = some (.inr (.inl x)) ∧ k = (pc + len, ls, .inr (.inl x) :: st, h, g)) ∨ (∃ x, k9 = 2 ∧ lget ls i = some (.inr (.inr x)) ∧ k = (pc + len, ls, .inr (.inr x) :: st, h, g)) := by
  unfold ldv at hx
  split at hx
  · rename_i h0
    exact Or.inl ⟨_, rfl, h0, (inl_inj hx).symm⟩
  · rename_i h0
    exact Or.inr (Or.inl ⟨_, rfl, h0, (inl_inj hx).symm⟩)
  · rename_i h0
    exact Or.inr (Or.inr ⟨_, rfl, h0, (inl_inj hx).symm⟩)
  · cases hx
theorem i_st1 {i len : Nat} {v : PV} {pc : Nat} {ls : PL} {st : List PV} {h : PH} {g : PG} {k : Cfg} (hx : st1 i len pc v ls st h g = some (.inl k)) : i < ls.length ∧ lfree ls i = true ∧ k = (pc + len, ls.set i (some v), st, h, g) := by
  unfold st1 at hx
  split at hx
  · rename_i h0
    exact ⟨h0.1, h0.2, (inl_inj hx).symm⟩
  · cases hx
theorem i_st2 {i len : Nat} {v : PV} {pc : Nat} {ls : PL} {st : List PV} {h : PH} {g : PG} {k : Cfg} (hx : st2 i len pc v ls st h g = some (.inl k)) : i + 1 < ls.length ∧ lfree ls i = true ∧ k = (pc + len, (ls.set i (some v)).set (i + 1) none, st, h, g) := by
  unfold st2 at hx
  split at hx
  · rename_i h0
    exact ⟨h0.1, h0.2, (inl_inj hx).symm⟩
  · cases hx
theorem i_stv {i len k9 : Nat} {pc : Nat} {ls : PL} {st : List PV} {h : PH} {g : PG} {k : Cfg} (hx : stv i len pc k9 ls st h g = some (.inl k)) : (∃ x s2, k9 = 0 ∧ st = .inl x :: s2 ∧ st1 i len pc (.inl x) ls s2 h g = some (.inl k)) ∨ (∃ x s2, k9 = 1 ∧ st = .inr (.inl x) :: s2 ∧ st2 i len pc (.inr (.inl x)) ls s2 h g = some (.inl k)) ∨ (∃ x s2, k9 = 2 ∧ st = .inr (.inr x) :: s2 ∧ st1 i len pc (.inr (.inr x)) ls s2 h g = some (.inl k)) := by
  unfold stv at hx
  split at hx
  · exact Or.inl ⟨_, _, rfl, rfl, hx⟩
  · exact Or.inr (Or.inl ⟨_, _, rfl, rfl, hx⟩)
  · exact Or.inr (Or.inr ⟨_, _, rfl, rfl, hx⟩)
  · cases hx
theorem no17_all : (List.range nCell).all (fun a => decide (¬ (shL.getD a (99, 0)).1 = 17)) = true := by decide +kernel
theorem no17 {a : Int} {n : Nat} (ho : isO a 17 n = true) : False := by
  have h1 := (isO_sh ho (by decide)).1
  by_cases h2 : a.toNat < nCell
  · have h3 := List.all_eq_true.mp no17_all a.toNat (List.mem_range.mpr h2)
    simp only [decide_eq_true_eq] at h3
    exact h3 h1
  · rw [List.getD_eq_getElem?_getD, List.getElem?_eq_none (by exact Nat.le_of_not_lt h2)] at h1
    simp at h1
theorem roK_12 (a : Int) : ¬ roK a = 12 := by
  unfold roK
  split
  · decide
  · split <;> decide
theorem roK_10 {a : Int} (h : roK a < 99) : roK a = 10 ∨ roK a = 17 := by
  unfold roK at h ⊢
  split
  · exact Or.inl rfl
  · rename_i h1
    rw [if_neg h1] at h
    split
    · exact Or.inr rfl
    · rename_i h2
      rw [if_neg h2] at h
      omega
theorem roN_0 {z : Int → Int} (hz : 0 ≤ z (-1)) {a : Int} (h : roK a < 99) : 0 ≤ roN z a := by
  unfold roN
  split
  · exact hz
  · omega
theorem no98_all : (List.range nCell).all (fun a => decide (¬ (shL.getD a (99, 0)).1 = 98)) = true := by decide +kernel
theorem elt_k {v : Int} {k n : Nat} (h : isO v (eltK k) n = true) : k = 13 ∨ k = 14 ∨ k = 15 := by
  by_cases h1 : k = 13
  · exact Or.inl h1
  · by_cases h2 : k = 14
    · exact Or.inr (Or.inl h2)
    · by_cases h3 : k = 15
      · exact Or.inr (Or.inr h3)
      · exfalso
        have e : eltK k = 98 := by
          unfold eltK
          rw [if_neg h1, if_neg h2, if_neg h3]
        rw [e] at h
        have h4 := (isO_sh h (by decide)).1
        by_cases h5 : v.toNat < nCell
        · have h6 := List.all_eq_true.mp no98_all v.toNat (List.mem_range.mpr h5)
          simp only [decide_eq_true_eq] at h6
          exact h6 h4
        · rw [List.getD_eq_getElem?_getD, List.getElem?_eq_none (by exact Nat.le_of_not_lt h5)] at h4
          simp at h4
theorem nar_c {v : Int} (h : 0 ≤ v ∧ v ≤ 65535) : narrow .char (.int (Int32.ofInt v)) = .int (Int32.ofInt v) := by
  have h1 := pk_charN (q := v.toNat) (by omega)
  have h2 : nI v.toNat = Int32.ofInt v := by
    unfold nI
    rw [← Int32.ofInt_eq_ofNat, Int.toNat_of_nonneg h.1]
  rw [h2] at h1
  exact h1.1
def RoomOK (R : Room) (mi : Nat) (n0 : Nat) (n' : Nat) : Prop := mF mi ≤ R.frames ∧ mW mi ≤ R.locals ∧ n' - n0 ≤ R.cells ∧ sl n' - sl n0 ≤ R.slots
section FRG
variable {base : Nat} {ad : Int → Nat} {z : Int → Int} {cA : Nat → ClassId} {D : va_G} {n0 mi : Nat} {p : Program} {l : Launch} {e : Env} {R : Room} {s : State} {m : MethodId} {args : Array Value} {below : List Frame} {meth : Method} {c : Code} {Q : State → Prop}
variable {pc : Nat} {ls : PL} {st : List PV} {h : PH} {g : PG} {k : Cfg}
theorem n_iadd  (hd : decode (mC mi) pc = .ok (.iadd, 1)) (hx : bI (· + ·) pc ls st h g = some (.inl k)) : g.1 ≤ k.2.2.2.2.1 ∧ (g.1 ≤ nCell → k.2.2.2.2.1 ≤ nCell) ∧ ∀ (_ : FO base ad z cA D p s m args meth c mi) (_ : RoomOK R mi n0 k.2.2.2.2.1) (_ : n0 ≤ g.1) (_ : WG base ad cA D n0 mi p l e R s m args below meth c Q k), WG base ad cA D n0 mi p l e R s m args below meth c Q (pc, ls, st, h, g) := by
  obtain ⟨x, y, s2, rfl, rfl⟩ := i_bI hx
  exact ⟨Nat.le_refl _, fun q => q, fun F _ _ k9 => s_iadd F hd k9⟩
theorem n_isub  (hd : decode (mC mi) pc = .ok (.isub, 1)) (hx : bI (· - ·) pc ls st h g = some (.inl k)) : g.1 ≤ k.2.2.2.2.1 ∧ (g.1 ≤ nCell → k.2.2.2.2.1 ≤ nCell) ∧ ∀ (_ : FO base ad z cA D p s m args meth c mi) (_ : RoomOK R mi n0 k.2.2.2.2.1) (_ : n0 ≤ g.1) (_ : WG base ad cA D n0 mi p l e R s m args below meth c Q k), WG base ad cA D n0 mi p l e R s m args below meth c Q (pc, ls, st, h, g) := by
  obtain ⟨x, y, s2, rfl, rfl⟩ := i_bI hx
  exact ⟨Nat.le_refl _, fun q => q, fun F _ _ k9 => s_isub F hd k9⟩
theorem n_imul  (hd : decode (mC mi) pc = .ok (.imul, 1)) (hx : bI (· * ·) pc ls st h g = some (.inl k)) : g.1 ≤ k.2.2.2.2.1 ∧ (g.1 ≤ nCell → k.2.2.2.2.1 ≤ nCell) ∧ ∀ (_ : FO base ad z cA D p s m args meth c mi) (_ : RoomOK R mi n0 k.2.2.2.2.1) (_ : n0 ≤ g.1) (_ : WG base ad cA D n0 mi p l e R s m args below meth c Q k), WG base ad cA D n0 mi p l e R s m args below meth c Q (pc, ls, st, h, g) := by
  obtain ⟨x, y, s2, rfl, rfl⟩ := i_bI hx
  exact ⟨Nat.le_refl _, fun q => q, fun F _ _ k9 => s_imul F hd k9⟩
theorem n_iand  (hd : decode (mC mi) pc = .ok (.iand, 1)) (hx : bI andI pc ls st h g = some (.inl k)) : g.1 ≤ k.2.2.2.2.1 ∧ (g.1 ≤ nCell → k.2.2.2.2.1 ≤ nCell) ∧ ∀ (_ : FO base ad z cA D p s m args meth c mi) (_ : RoomOK R mi n0 k.2.2.2.2.1) (_ : n0 ≤ g.1) (_ : WG base ad cA D n0 mi p l e R s m args below meth c Q k), WG base ad cA D n0 mi p l e R s m args below meth c Q (pc, ls, st, h, g) := by
  obtain ⟨x, y, s2, rfl, rfl⟩ := i_bI hx
  exact ⟨Nat.le_refl _, fun q => q, fun F _ _ k9 => s_iand F hd k9⟩
theorem n_ior  (hd : decode (mC mi) pc = .ok (.ior, 1)) (hx : bI orI pc ls st h g = some (.inl k)) : g.1 ≤ k.2.2.2.2.1 ∧ (g.1 ≤ nCell → k.2.2.2.2.1 ≤ nCell) ∧ ∀ (_ : FO base ad z cA D p s m args meth c mi) (_ : RoomOK R mi n0 k.2.2.2.2.1) (_ : n0 ≤ g.1) (_ : WG base ad cA D n0 mi p l e R s m args below meth c Q k), WG base ad cA D n0 mi p l e R s m args below meth c Q (pc, ls, st, h, g) := by
  obtain ⟨x, y, s2, rfl, rfl⟩ := i_bI hx
  exact ⟨Nat.le_refl _, fun q => q, fun F _ _ k9 => s_ior F hd k9⟩
theorem n_ixor  (hd : decode (mC mi) pc = .ok (.ixor, 1)) (hx : bI xorI pc ls st h g = some (.inl k)) : g.1 ≤ k.2.2.2.2.1 ∧ (g.1 ≤ nCell → k.2.2.2.2.1 ≤ nCell) ∧ ∀ (_ : FO base ad z cA D p s m args meth c mi) (_ : RoomOK R mi n0 k.2.2.2.2.1) (_ : n0 ≤ g.1) (_ : WG base ad cA D n0 mi p l e R s m args below meth c Q k), WG base ad cA D n0 mi p l e R s m args below meth c Q (pc, ls, st, h, g) := by
  obtain ⟨x, y, s2, rfl, rfl⟩ := i_bI hx
  exact ⟨Nat.le_refl _, fun q => q, fun F _ _ k9 => s_ixor F hd k9⟩
theorem n_ishl  (hd : decode (mC mi) pc = .ok (.ishl, 1)) (hx : bI shlI pc ls st h g = some (.inl k)) : g.1 ≤ k.2.2.2.2.1 ∧ (g.1 ≤ nCell → k.2.2.2.2.1 ≤ nCell) ∧ ∀ (_ : FO base ad z cA D p s m args meth c mi) (_ : RoomOK R mi n0 k.2.2.2.2.1) (_ : n0 ≤ g.1) (_ : WG base ad cA D n0 mi p l e R s m args below meth c Q k), WG base ad cA D n0 mi p l e R s m args below meth c Q (pc, ls, st, h, g) := by
  obtain ⟨x, y, s2, rfl, rfl⟩ := i_bI hx
  exact ⟨Nat.le_refl _, fun q => q, fun F _ _ k9 => s_ishl F hd k9⟩
theorem n_ishr  (hd : decode (mC mi) pc = .ok (.ishr, 1)) (hx : bI shrI pc ls st h g = some (.inl k)) : g.1 ≤ k.2.2.2.2.1 ∧ (g.1 ≤ nCell → k.2.2.2.2.1 ≤ nCell) ∧ ∀ (_ : FO base ad z cA D p s m args meth c mi) (_ : RoomOK R mi n0 k.2.2.2.2.1) (_ : n0 ≤ g.1) (_ : WG base ad cA D n0 mi p l e R s m args below meth c Q k), WG base ad cA D n0 mi p l e R s m args below meth c Q (pc, ls, st, h, g) := by
  obtain ⟨x, y, s2, rfl, rfl⟩ := i_bI hx
  exact ⟨Nat.le_refl _, fun q => q, fun F _ _ k9 => s_ishr F hd k9⟩
theorem n_iushr  (hd : decode (mC mi) pc = .ok (.iushr, 1)) (hx : bI ushrI pc ls st h g = some (.inl k)) : g.1 ≤ k.2.2.2.2.1 ∧ (g.1 ≤ nCell → k.2.2.2.2.1 ≤ nCell) ∧ ∀ (_ : FO base ad z cA D p s m args meth c mi) (_ : RoomOK R mi n0 k.2.2.2.2.1) (_ : n0 ≤ g.1) (_ : WG base ad cA D n0 mi p l e R s m args below meth c Q k), WG base ad cA D n0 mi p l e R s m args below meth c Q (pc, ls, st, h, g) := by
  obtain ⟨x, y, s2, rfl, rfl⟩ := i_bI hx
  exact ⟨Nat.le_refl _, fun q => q, fun F _ _ k9 => s_iushr F hd k9⟩
theorem n_ladd  (hd : decode (mC mi) pc = .ok (.ladd, 1)) (hx : bL (· + ·) pc ls st h g = some (.inl k)) : g.1 ≤ k.2.2.2.2.1 ∧ (g.1 ≤ nCell → k.2.2.2.2.1 ≤ nCell) ∧ ∀ (_ : FO base ad z cA D p s m args meth c mi) (_ : RoomOK R mi n0 k.2.2.2.2.1) (_ : n0 ≤ g.1) (_ : WG base ad cA D n0 mi p l e R s m args below meth c Q k), WG base ad cA D n0 mi p l e R s m args below meth c Q (pc, ls, st, h, g) := by
  obtain ⟨x, y, s2, rfl, rfl⟩ := i_bL hx
  exact ⟨Nat.le_refl _, fun q => q, fun F _ _ k9 => s_ladd F hd k9⟩
theorem n_lsub  (hd : decode (mC mi) pc = .ok (.lsub, 1)) (hx : bL (· - ·) pc ls st h g = some (.inl k)) : g.1 ≤ k.2.2.2.2.1 ∧ (g.1 ≤ nCell → k.2.2.2.2.1 ≤ nCell) ∧ ∀ (_ : FO base ad z cA D p s m args meth c mi) (_ : RoomOK R mi n0 k.2.2.2.2.1) (_ : n0 ≤ g.1) (_ : WG base ad cA D n0 mi p l e R s m args below meth c Q k), WG base ad cA D n0 mi p l e R s m args below meth c Q (pc, ls, st, h, g) := by
  obtain ⟨x, y, s2, rfl, rfl⟩ := i_bL hx
  exact ⟨Nat.le_refl _, fun q => q, fun F _ _ k9 => s_lsub F hd k9⟩
theorem n_lmul  (hd : decode (mC mi) pc = .ok (.lmul, 1)) (hx : bL (· * ·) pc ls st h g = some (.inl k)) : g.1 ≤ k.2.2.2.2.1 ∧ (g.1 ≤ nCell → k.2.2.2.2.1 ≤ nCell) ∧ ∀ (_ : FO base ad z cA D p s m args meth c mi) (_ : RoomOK R mi n0 k.2.2.2.2.1) (_ : n0 ≤ g.1) (_ : WG base ad cA D n0 mi p l e R s m args below meth c Q k), WG base ad cA D n0 mi p l e R s m args below meth c Q (pc, ls, st, h, g) := by
  obtain ⟨x, y, s2, rfl, rfl⟩ := i_bL hx
  exact ⟨Nat.le_refl _, fun q => q, fun F _ _ k9 => s_lmul F hd k9⟩
theorem n_idiv  (hd : decode (mC mi) pc = .ok (.idiv, 1)) (hx : qI divI pc ls st h g = some (.inl k)) : g.1 ≤ k.2.2.2.2.1 ∧ (g.1 ≤ nCell → k.2.2.2.2.1 ≤ nCell) ∧ ∀ (_ : FO base ad z cA D p s m args meth c mi) (_ : RoomOK R mi n0 k.2.2.2.2.1) (_ : n0 ≤ g.1) (_ : WG base ad cA D n0 mi p l e R s m args below meth c Q k), WG base ad cA D n0 mi p l e R s m args below meth c Q (pc, ls, st, h, g) := by
  obtain ⟨x, y, s2, rfl, h0, rfl⟩ := i_qI hx
  exact ⟨Nat.le_refl _, fun q => q, fun F _ _ k9 => s_idiv F hd h0 k9⟩
theorem n_irem  (hd : decode (mC mi) pc = .ok (.irem, 1)) (hx : qI remI pc ls st h g = some (.inl k)) : g.1 ≤ k.2.2.2.2.1 ∧ (g.1 ≤ nCell → k.2.2.2.2.1 ≤ nCell) ∧ ∀ (_ : FO base ad z cA D p s m args meth c mi) (_ : RoomOK R mi n0 k.2.2.2.2.1) (_ : n0 ≤ g.1) (_ : WG base ad cA D n0 mi p l e R s m args below meth c Q k), WG base ad cA D n0 mi p l e R s m args below meth c Q (pc, ls, st, h, g) := by
  obtain ⟨x, y, s2, rfl, h0, rfl⟩ := i_qI hx
  exact ⟨Nat.le_refl _, fun q => q, fun F _ _ k9 => s_irem F hd h0 k9⟩
theorem n_ldiv  (hd : decode (mC mi) pc = .ok (.ldiv, 1)) (hx : qL divL pc ls st h g = some (.inl k)) : g.1 ≤ k.2.2.2.2.1 ∧ (g.1 ≤ nCell → k.2.2.2.2.1 ≤ nCell) ∧ ∀ (_ : FO base ad z cA D p s m args meth c mi) (_ : RoomOK R mi n0 k.2.2.2.2.1) (_ : n0 ≤ g.1) (_ : WG base ad cA D n0 mi p l e R s m args below meth c Q k), WG base ad cA D n0 mi p l e R s m args below meth c Q (pc, ls, st, h, g) := by
  obtain ⟨x, y, s2, rfl, h0, rfl⟩ := i_qL hx
  exact ⟨Nat.le_refl _, fun q => q, fun F _ _ k9 => s_ldiv F hd h0 k9⟩
theorem n_lrem  (hd : decode (mC mi) pc = .ok (.lrem, 1)) (hx : qL remL pc ls st h g = some (.inl k)) : g.1 ≤ k.2.2.2.2.1 ∧ (g.1 ≤ nCell → k.2.2.2.2.1 ≤ nCell) ∧ ∀ (_ : FO base ad z cA D p s m args meth c mi) (_ : RoomOK R mi n0 k.2.2.2.2.1) (_ : n0 ≤ g.1) (_ : WG base ad cA D n0 mi p l e R s m args below meth c Q k), WG base ad cA D n0 mi p l e R s m args below meth c Q (pc, ls, st, h, g) := by
  obtain ⟨x, y, s2, rfl, h0, rfl⟩ := i_qL hx
  exact ⟨Nat.le_refl _, fun q => q, fun F _ _ k9 => s_lrem F hd h0 k9⟩
theorem n_ineg  (hd : decode (mC mi) pc = .ok (.ineg, 1)) (hx : uI (- ·) pc ls st h g = some (.inl k)) : g.1 ≤ k.2.2.2.2.1 ∧ (g.1 ≤ nCell → k.2.2.2.2.1 ≤ nCell) ∧ ∀ (_ : FO base ad z cA D p s m args meth c mi) (_ : RoomOK R mi n0 k.2.2.2.2.1) (_ : n0 ≤ g.1) (_ : WG base ad cA D n0 mi p l e R s m args below meth c Q k), WG base ad cA D n0 mi p l e R s m args below meth c Q (pc, ls, st, h, g) := by
  obtain ⟨x, s2, rfl, rfl⟩ := i_uI hx
  exact ⟨Nat.le_refl _, fun q => q, fun F _ _ k9 => s_ineg F hd k9⟩
theorem n_i2b  (hd : decode (mC mi) pc = .ok (.i2b, 1)) (hx : uI i2bI pc ls st h g = some (.inl k)) : g.1 ≤ k.2.2.2.2.1 ∧ (g.1 ≤ nCell → k.2.2.2.2.1 ≤ nCell) ∧ ∀ (_ : FO base ad z cA D p s m args meth c mi) (_ : RoomOK R mi n0 k.2.2.2.2.1) (_ : n0 ≤ g.1) (_ : WG base ad cA D n0 mi p l e R s m args below meth c Q k), WG base ad cA D n0 mi p l e R s m args below meth c Q (pc, ls, st, h, g) := by
  obtain ⟨x, s2, rfl, rfl⟩ := i_uI hx
  exact ⟨Nat.le_refl _, fun q => q, fun F _ _ k9 => s_i2b F hd k9⟩
theorem n_i2c  (hd : decode (mC mi) pc = .ok (.i2c, 1)) (hx : uI i2cI pc ls st h g = some (.inl k)) : g.1 ≤ k.2.2.2.2.1 ∧ (g.1 ≤ nCell → k.2.2.2.2.1 ≤ nCell) ∧ ∀ (_ : FO base ad z cA D p s m args meth c mi) (_ : RoomOK R mi n0 k.2.2.2.2.1) (_ : n0 ≤ g.1) (_ : WG base ad cA D n0 mi p l e R s m args below meth c Q k), WG base ad cA D n0 mi p l e R s m args below meth c Q (pc, ls, st, h, g) := by
  obtain ⟨x, s2, rfl, rfl⟩ := i_uI hx
  exact ⟨Nat.le_refl _, fun q => q, fun F _ _ k9 => s_i2c F hd k9⟩
theorem n_i2l  (hd : decode (mC mi) pc = .ok (.i2l, 1)) (hx : i2lI pc ls st h g = some (.inl k)) : g.1 ≤ k.2.2.2.2.1 ∧ (g.1 ≤ nCell → k.2.2.2.2.1 ≤ nCell) ∧ ∀ (_ : FO base ad z cA D p s m args meth c mi) (_ : RoomOK R mi n0 k.2.2.2.2.1) (_ : n0 ≤ g.1) (_ : WG base ad cA D n0 mi p l e R s m args below meth c Q k), WG base ad cA D n0 mi p l e R s m args below meth c Q (pc, ls, st, h, g) := by
  obtain ⟨x, s2, rfl, rfl⟩ := i_i2lI hx
  exact ⟨Nat.le_refl _, fun q => q, fun F _ _ k9 => s_i2l F hd k9⟩
theorem n_l2i  (hd : decode (mC mi) pc = .ok (.l2i, 1)) (hx : l2iI pc ls st h g = some (.inl k)) : g.1 ≤ k.2.2.2.2.1 ∧ (g.1 ≤ nCell → k.2.2.2.2.1 ≤ nCell) ∧ ∀ (_ : FO base ad z cA D p s m args meth c mi) (_ : RoomOK R mi n0 k.2.2.2.2.1) (_ : n0 ≤ g.1) (_ : WG base ad cA D n0 mi p l e R s m args below meth c Q k), WG base ad cA D n0 mi p l e R s m args below meth c Q (pc, ls, st, h, g) := by
  obtain ⟨x, s2, rfl, rfl⟩ := i_l2iI hx
  exact ⟨Nat.le_refl _, fun q => q, fun F _ _ k9 => s_l2i F hd k9⟩
theorem n_lneg  (hd : decode (mC mi) pc = .ok (.lneg, 1)) (hx : negL pc ls st h g = some (.inl k)) : g.1 ≤ k.2.2.2.2.1 ∧ (g.1 ≤ nCell → k.2.2.2.2.1 ≤ nCell) ∧ ∀ (_ : FO base ad z cA D p s m args meth c mi) (_ : RoomOK R mi n0 k.2.2.2.2.1) (_ : n0 ≤ g.1) (_ : WG base ad cA D n0 mi p l e R s m args below meth c Q k), WG base ad cA D n0 mi p l e R s m args below meth c Q (pc, ls, st, h, g) := by
  obtain ⟨x, s2, rfl, rfl⟩ := i_negL hx
  exact ⟨Nat.le_refl _, fun q => q, fun F _ _ k9 => s_lneg F hd k9⟩
theorem n_lcmp  (hd : decode (mC mi) pc = .ok (.lcmp, 1)) (hx : lcmpI pc ls st h g = some (.inl k)) : g.1 ≤ k.2.2.2.2.1 ∧ (g.1 ≤ nCell → k.2.2.2.2.1 ≤ nCell) ∧ ∀ (_ : FO base ad z cA D p s m args meth c mi) (_ : RoomOK R mi n0 k.2.2.2.2.1) (_ : n0 ≤ g.1) (_ : WG base ad cA D n0 mi p l e R s m args below meth c Q k), WG base ad cA D n0 mi p l e R s m args below meth c Q (pc, ls, st, h, g) := by
  obtain ⟨x, y, s2, rfl, rfl⟩ := i_lcmpI hx
  exact ⟨Nat.le_refl _, fun q => q, fun F _ _ k9 => s_lcmp F hd k9⟩
theorem n_dup  (hd : decode (mC mi) pc = .ok (.dup, 1)) (hx : dup1 pc ls st h g = some (.inl k)) : g.1 ≤ k.2.2.2.2.1 ∧ (g.1 ≤ nCell → k.2.2.2.2.1 ≤ nCell) ∧ ∀ (_ : FO base ad z cA D p s m args meth c mi) (_ : RoomOK R mi n0 k.2.2.2.2.1) (_ : n0 ≤ g.1) (_ : WG base ad cA D n0 mi p l e R s m args below meth c Q k), WG base ad cA D n0 mi p l e R s m args below meth c Q (pc, ls, st, h, g) := by
  obtain ⟨v, s2, rfl, h0, rfl⟩ := i_dup1 hx
  exact ⟨Nat.le_refl _, fun q => q, fun F _ _ k9 => s_dup F hd h0 k9⟩
theorem n_pop  (hd : decode (mC mi) pc = .ok (.pop, 1)) (hx : pop1 pc ls st h g = some (.inl k)) : g.1 ≤ k.2.2.2.2.1 ∧ (g.1 ≤ nCell → k.2.2.2.2.1 ≤ nCell) ∧ ∀ (_ : FO base ad z cA D p s m args meth c mi) (_ : RoomOK R mi n0 k.2.2.2.2.1) (_ : n0 ≤ g.1) (_ : WG base ad cA D n0 mi p l e R s m args below meth c Q k), WG base ad cA D n0 mi p l e R s m args below meth c Q (pc, ls, st, h, g) := by
  obtain ⟨v, s2, rfl, h0, rfl⟩ := i_pop1 hx
  exact ⟨Nat.le_refl _, fun q => q, fun F _ _ k9 => s_pop F hd h0 k9⟩
theorem n_pop2  (hd : decode (mC mi) pc = .ok (.pop2, 1)) (hx : pop22 pc ls st h g = some (.inl k)) : g.1 ≤ k.2.2.2.2.1 ∧ (g.1 ≤ nCell → k.2.2.2.2.1 ≤ nCell) ∧ ∀ (_ : FO base ad z cA D p s m args meth c mi) (_ : RoomOK R mi n0 k.2.2.2.2.1) (_ : n0 ≤ g.1) (_ : WG base ad cA D n0 mi p l e R s m args below meth c Q k), WG base ad cA D n0 mi p l e R s m args below meth c Q (pc, ls, st, h, g) := by
  obtain ⟨v, s2, rfl, h0, rfl⟩ := i_pop22 hx
  exact ⟨Nat.le_refl _, fun q => q, fun F _ _ k9 => s_pop2 F hd h0 k9⟩
theorem n_dup2  (hd : decode (mC mi) pc = .ok (.dup2, 1)) (hx : dup2 pc ls st h g = some (.inl k)) : g.1 ≤ k.2.2.2.2.1 ∧ (g.1 ≤ nCell → k.2.2.2.2.1 ≤ nCell) ∧ ∀ (_ : FO base ad z cA D p s m args meth c mi) (_ : RoomOK R mi n0 k.2.2.2.2.1) (_ : n0 ≤ g.1) (_ : WG base ad cA D n0 mi p l e R s m args below meth c Q k), WG base ad cA D n0 mi p l e R s m args below meth c Q (pc, ls, st, h, g) := by
  obtain ⟨v, w, s2, rfl, h0, h1, rfl⟩ := i_dup2 hx
  exact ⟨Nat.le_refl _, fun q => q, fun F _ _ k9 => s_dup2 F hd h0 h1 k9⟩
theorem n_dup_x1  (hd : decode (mC mi) pc = .ok (.dup_x1, 1)) (hx : dupx pc ls st h g = some (.inl k)) : g.1 ≤ k.2.2.2.2.1 ∧ (g.1 ≤ nCell → k.2.2.2.2.1 ≤ nCell) ∧ ∀ (_ : FO base ad z cA D p s m args meth c mi) (_ : RoomOK R mi n0 k.2.2.2.2.1) (_ : n0 ≤ g.1) (_ : WG base ad cA D n0 mi p l e R s m args below meth c Q k), WG base ad cA D n0 mi p l e R s m args below meth c Q (pc, ls, st, h, g) := by
  obtain ⟨v, w, s2, rfl, h0, h1, rfl⟩ := i_dupx hx
  exact ⟨Nat.le_refl _, fun q => q, fun F _ _ k9 => s_dup_x1 F hd h0 h1 k9⟩
theorem n_goto {off : Int} (hd : decode (mC mi) pc = .ok (.goto off, 3)) (hx : jmp pc off ls st h g = some (.inl k)) : g.1 ≤ k.2.2.2.2.1 ∧ (g.1 ≤ nCell → k.2.2.2.2.1 ≤ nCell) ∧ ∀ (_ : FO base ad z cA D p s m args meth c mi) (_ : RoomOK R mi n0 k.2.2.2.2.1) (_ : n0 ≤ g.1) (_ : WG base ad cA D n0 mi p l e R s m args below meth c Q k), WG base ad cA D n0 mi p l e R s m args below meth c Q (pc, ls, st, h, g) := by
  obtain ⟨h0, rfl⟩ := i_jmp hx
  exact ⟨Nat.le_refl _, fun q => q, fun F _ _ k9 => s_goto F hd h0 k9⟩
theorem n_iload_n {i : Fin 4} (hd : decode (mC mi) pc = .ok (.iload_n i, 1)) (hx : ldv i 1 pc 0 ls st h g = some (.inl k)) : g.1 ≤ k.2.2.2.2.1 ∧ (g.1 ≤ nCell → k.2.2.2.2.1 ≤ nCell) ∧ ∀ (_ : FO base ad z cA D p s m args meth c mi) (_ : RoomOK R mi n0 k.2.2.2.2.1) (_ : n0 ≤ g.1) (_ : WG base ad cA D n0 mi p l e R s m args below meth c Q k), WG base ad cA D n0 mi p l e R s m args below meth c Q (pc, ls, st, h, g) := by
  rcases i_ldv hx with ⟨x, q, h0, rfl⟩ | ⟨x, q, h0, rfl⟩ | ⟨x, q, h0, rfl⟩
  · exact ⟨Nat.le_refl _, fun q => q, fun F _ _ k9 => s_iload_n F hd h0 k9⟩
  · cases q
  · cases q
theorem n_iload {i : Nat} (hd : decode (mC mi) pc = .ok (.iload i, 2)) (hx : ldv i 2 pc 0 ls st h g = some (.inl k)) : g.1 ≤ k.2.2.2.2.1 ∧ (g.1 ≤ nCell → k.2.2.2.2.1 ≤ nCell) ∧ ∀ (_ : FO base ad z cA D p s m args meth c mi) (_ : RoomOK R mi n0 k.2.2.2.2.1) (_ : n0 ≤ g.1) (_ : WG base ad cA D n0 mi p l e R s m args below meth c Q k), WG base ad cA D n0 mi p l e R s m args below meth c Q (pc, ls, st, h, g) := by
  rcases i_ldv hx with ⟨x, q, h0, rfl⟩ | ⟨x, q, h0, rfl⟩ | ⟨x, q, h0, rfl⟩
  · exact ⟨Nat.le_refl _, fun q => q, fun F _ _ k9 => s_iload F hd h0 k9⟩
  · cases q
  · cases q
theorem n_lload_n {i : Fin 4} (hd : decode (mC mi) pc = .ok (.lload_n i, 1)) (hx : ldv i 1 pc 1 ls st h g = some (.inl k)) : g.1 ≤ k.2.2.2.2.1 ∧ (g.1 ≤ nCell → k.2.2.2.2.1 ≤ nCell) ∧ ∀ (_ : FO base ad z cA D p s m args meth c mi) (_ : RoomOK R mi n0 k.2.2.2.2.1) (_ : n0 ≤ g.1) (_ : WG base ad cA D n0 mi p l e R s m args below meth c Q k), WG base ad cA D n0 mi p l e R s m args below meth c Q (pc, ls, st, h, g) := by
  rcases i_ldv hx with ⟨x, q, h0, rfl⟩ | ⟨x, q, h0, rfl⟩ | ⟨x, q, h0, rfl⟩
  · cases q
  · exact ⟨Nat.le_refl _, fun q => q, fun F _ _ k9 => s_lload_n F hd h0 k9⟩
  · cases q
theorem n_lload {i : Nat} (hd : decode (mC mi) pc = .ok (.lload i, 2)) (hx : ldv i 2 pc 1 ls st h g = some (.inl k)) : g.1 ≤ k.2.2.2.2.1 ∧ (g.1 ≤ nCell → k.2.2.2.2.1 ≤ nCell) ∧ ∀ (_ : FO base ad z cA D p s m args meth c mi) (_ : RoomOK R mi n0 k.2.2.2.2.1) (_ : n0 ≤ g.1) (_ : WG base ad cA D n0 mi p l e R s m args below meth c Q k), WG base ad cA D n0 mi p l e R s m args below meth c Q (pc, ls, st, h, g) := by
  rcases i_ldv hx with ⟨x, q, h0, rfl⟩ | ⟨x, q, h0, rfl⟩ | ⟨x, q, h0, rfl⟩
  · cases q
  · exact ⟨Nat.le_refl _, fun q => q, fun F _ _ k9 => s_lload F hd h0 k9⟩
  · cases q
theorem n_aload_n {i : Fin 4} (hd : decode (mC mi) pc = .ok (.aload_n i, 1)) (hx : ldv i 1 pc 2 ls st h g = some (.inl k)) : g.1 ≤ k.2.2.2.2.1 ∧ (g.1 ≤ nCell → k.2.2.2.2.1 ≤ nCell) ∧ ∀ (_ : FO base ad z cA D p s m args meth c mi) (_ : RoomOK R mi n0 k.2.2.2.2.1) (_ : n0 ≤ g.1) (_ : WG base ad cA D n0 mi p l e R s m args below meth c Q k), WG base ad cA D n0 mi p l e R s m args below meth c Q (pc, ls, st, h, g) := by
  rcases i_ldv hx with ⟨x, q, h0, rfl⟩ | ⟨x, q, h0, rfl⟩ | ⟨x, q, h0, rfl⟩
  · cases q
  · cases q
  · exact ⟨Nat.le_refl _, fun q => q, fun F _ _ k9 => s_aload_n F hd h0 k9⟩
theorem n_aload {i : Nat} (hd : decode (mC mi) pc = .ok (.aload i, 2)) (hx : ldv i 2 pc 2 ls st h g = some (.inl k)) : g.1 ≤ k.2.2.2.2.1 ∧ (g.1 ≤ nCell → k.2.2.2.2.1 ≤ nCell) ∧ ∀ (_ : FO base ad z cA D p s m args meth c mi) (_ : RoomOK R mi n0 k.2.2.2.2.1) (_ : n0 ≤ g.1) (_ : WG base ad cA D n0 mi p l e R s m args below meth c Q k), WG base ad cA D n0 mi p l e R s m args below meth c Q (pc, ls, st, h, g) := by
  rcases i_ldv hx with ⟨x, q, h0, rfl⟩ | ⟨x, q, h0, rfl⟩ | ⟨x, q, h0, rfl⟩
  · cases q
  · cases q
  · exact ⟨Nat.le_refl _, fun q => q, fun F _ _ k9 => s_aload F hd h0 k9⟩
theorem n_istore_n {i : Fin 4} (hd : decode (mC mi) pc = .ok (.istore_n i, 1)) (hx : stv i 1 pc 0 ls st h g = some (.inl k)) : g.1 ≤ k.2.2.2.2.1 ∧ (g.1 ≤ nCell → k.2.2.2.2.1 ≤ nCell) ∧ ∀ (_ : FO base ad z cA D p s m args meth c mi) (_ : RoomOK R mi n0 k.2.2.2.2.1) (_ : n0 ≤ g.1) (_ : WG base ad cA D n0 mi p l e R s m args below meth c Q k), WG base ad cA D n0 mi p l e R s m args below meth c Q (pc, ls, st, h, g) := by
  rcases i_stv hx with ⟨x, s2, q, rfl, h9⟩ | ⟨x, s2, q, rfl, h9⟩ | ⟨x, s2, q, rfl, h9⟩
  · obtain ⟨h0, h1, rfl⟩ := i_st1 h9
    exact ⟨Nat.le_refl _, fun q => q, fun F _ _ k9 => s_istore_n F hd h0 h1 k9⟩
  · cases q
  · cases q
theorem n_istore {i : Nat} (hd : decode (mC mi) pc = .ok (.istore i, 2)) (hx : stv i 2 pc 0 ls st h g = some (.inl k)) : g.1 ≤ k.2.2.2.2.1 ∧ (g.1 ≤ nCell → k.2.2.2.2.1 ≤ nCell) ∧ ∀ (_ : FO base ad z cA D p s m args meth c mi) (_ : RoomOK R mi n0 k.2.2.2.2.1) (_ : n0 ≤ g.1) (_ : WG base ad cA D n0 mi p l e R s m args below meth c Q k), WG base ad cA D n0 mi p l e R s m args below meth c Q (pc, ls, st, h, g) := by
  rcases i_stv hx with ⟨x, s2, q, rfl, h9⟩ | ⟨x, s2, q, rfl, h9⟩ | ⟨x, s2, q, rfl, h9⟩
  · obtain ⟨h0, h1, rfl⟩ := i_st1 h9
    exact ⟨Nat.le_refl _, fun q => q, fun F _ _ k9 => s_istore F hd h0 h1 k9⟩
  · cases q
  · cases q
theorem n_lstore_n {i : Fin 4} (hd : decode (mC mi) pc = .ok (.lstore_n i, 1)) (hx : stv i 1 pc 1 ls st h g = some (.inl k)) : g.1 ≤ k.2.2.2.2.1 ∧ (g.1 ≤ nCell → k.2.2.2.2.1 ≤ nCell) ∧ ∀ (_ : FO base ad z cA D p s m args meth c mi) (_ : RoomOK R mi n0 k.2.2.2.2.1) (_ : n0 ≤ g.1) (_ : WG base ad cA D n0 mi p l e R s m args below meth c Q k), WG base ad cA D n0 mi p l e R s m args below meth c Q (pc, ls, st, h, g) := by
  rcases i_stv hx with ⟨x, s2, q, rfl, h9⟩ | ⟨x, s2, q, rfl, h9⟩ | ⟨x, s2, q, rfl, h9⟩
  · cases q
  · obtain ⟨h0, h1, rfl⟩ := i_st2 h9
    exact ⟨Nat.le_refl _, fun q => q, fun F _ _ k9 => s_lstore_n F hd h0 h1 k9⟩
  · cases q
theorem n_lstore {i : Nat} (hd : decode (mC mi) pc = .ok (.lstore i, 2)) (hx : stv i 2 pc 1 ls st h g = some (.inl k)) : g.1 ≤ k.2.2.2.2.1 ∧ (g.1 ≤ nCell → k.2.2.2.2.1 ≤ nCell) ∧ ∀ (_ : FO base ad z cA D p s m args meth c mi) (_ : RoomOK R mi n0 k.2.2.2.2.1) (_ : n0 ≤ g.1) (_ : WG base ad cA D n0 mi p l e R s m args below meth c Q k), WG base ad cA D n0 mi p l e R s m args below meth c Q (pc, ls, st, h, g) := by
  rcases i_stv hx with ⟨x, s2, q, rfl, h9⟩ | ⟨x, s2, q, rfl, h9⟩ | ⟨x, s2, q, rfl, h9⟩
  · cases q
  · obtain ⟨h0, h1, rfl⟩ := i_st2 h9
    exact ⟨Nat.le_refl _, fun q => q, fun F _ _ k9 => s_lstore F hd h0 h1 k9⟩
  · cases q
theorem n_astore_n {i : Fin 4} (hd : decode (mC mi) pc = .ok (.astore_n i, 1)) (hx : stv i 1 pc 2 ls st h g = some (.inl k)) : g.1 ≤ k.2.2.2.2.1 ∧ (g.1 ≤ nCell → k.2.2.2.2.1 ≤ nCell) ∧ ∀ (_ : FO base ad z cA D p s m args meth c mi) (_ : RoomOK R mi n0 k.2.2.2.2.1) (_ : n0 ≤ g.1) (_ : WG base ad cA D n0 mi p l e R s m args below meth c Q k), WG base ad cA D n0 mi p l e R s m args below meth c Q (pc, ls, st, h, g) := by
  rcases i_stv hx with ⟨x, s2, q, rfl, h9⟩ | ⟨x, s2, q, rfl, h9⟩ | ⟨x, s2, q, rfl, h9⟩
  · cases q
  · cases q
  · obtain ⟨h0, h1, rfl⟩ := i_st1 h9
    exact ⟨Nat.le_refl _, fun q => q, fun F _ _ k9 => s_astore_n F hd h0 h1 k9⟩
theorem n_astore {i : Nat} (hd : decode (mC mi) pc = .ok (.astore i, 2)) (hx : stv i 2 pc 2 ls st h g = some (.inl k)) : g.1 ≤ k.2.2.2.2.1 ∧ (g.1 ≤ nCell → k.2.2.2.2.1 ≤ nCell) ∧ ∀ (_ : FO base ad z cA D p s m args meth c mi) (_ : RoomOK R mi n0 k.2.2.2.2.1) (_ : n0 ≤ g.1) (_ : WG base ad cA D n0 mi p l e R s m args below meth c Q k), WG base ad cA D n0 mi p l e R s m args below meth c Q (pc, ls, st, h, g) := by
  rcases i_stv hx with ⟨x, s2, q, rfl, h9⟩ | ⟨x, s2, q, rfl, h9⟩ | ⟨x, s2, q, rfl, h9⟩
  · cases q
  · cases q
  · obtain ⟨h0, h1, rfl⟩ := i_st1 h9
    exact ⟨Nat.le_refl _, fun q => q, fun F _ _ k9 => s_astore F hd h0 h1 k9⟩
theorem n_iinc {i : Nat} {q : Int} (hd : decode (mC mi) pc = .ok (.iinc i q, 3)) (hx : iinc i q pc ls st h g = some (.inl k)) : g.1 ≤ k.2.2.2.2.1 ∧ (g.1 ≤ nCell → k.2.2.2.2.1 ≤ nCell) ∧ ∀ (_ : FO base ad z cA D p s m args meth c mi) (_ : RoomOK R mi n0 k.2.2.2.2.1) (_ : n0 ≤ g.1) (_ : WG base ad cA D n0 mi p l e R s m args below meth c Q k), WG base ad cA D n0 mi p l e R s m args below meth c Q (pc, ls, st, h, g) := by
  unfold iinc at hx
  split at hx
  · rename_i h2
    obtain ⟨h0, h1, rfl⟩ := i_st1 hx
    exact ⟨Nat.le_refl _, fun q => q, fun F _ _ k9 => s_iinc F hd h2 h0 h1 k9⟩
  · cases hx
theorem n_icmp {q : ClassFile.Cond} {off : Int} (hd : decode (mC mi) pc = .ok (.if_icmp q off, 3)) (hx : (match st with
    | .inl y :: .inl x :: st => jc q x y pc off ls st h g
    | _ => none) = some (.inl k)) : g.1 ≤ k.2.2.2.2.1 ∧ (g.1 ≤ nCell → k.2.2.2.2.1 ≤ nCell) ∧ ∀ (_ : FO base ad z cA D p s m args meth c mi) (_ : RoomOK R mi n0 k.2.2.2.2.1) (_ : n0 ≤ g.1) (_ : WG base ad cA D n0 mi p l e R s m args below meth c Q k), WG base ad cA D n0 mi p l e R s m args below meth c Q (pc, ls, st, h, g) := by
  split at hx
  · obtain ⟨h0, h1⟩ := i_jc hx
    rcases h1 with ⟨h1, rfl⟩ | ⟨h1, rfl⟩
    · exact ⟨Nat.le_refl _, fun q => q, fun F _ _ k9 => s_icmp F hd h0 (fun _ => k9) (fun q => by rw [h1] at q; cases q)⟩
    · exact ⟨Nat.le_refl _, fun q => q, fun F _ _ k9 => s_icmp F hd h0 (fun q => by rw [h1] at q; cases q) (fun _ => k9)⟩
  · cases hx
theorem n_ifc {q : ClassFile.Cond} {off : Int} (hd : decode (mC mi) pc = .ok (.ifCond q off, 3)) (hx : (match st with
    | .inl x :: st => jc q x 0 pc off ls st h g
    | _ => none) = some (.inl k)) : g.1 ≤ k.2.2.2.2.1 ∧ (g.1 ≤ nCell → k.2.2.2.2.1 ≤ nCell) ∧ ∀ (_ : FO base ad z cA D p s m args meth c mi) (_ : RoomOK R mi n0 k.2.2.2.2.1) (_ : n0 ≤ g.1) (_ : WG base ad cA D n0 mi p l e R s m args below meth c Q k), WG base ad cA D n0 mi p l e R s m args below meth c Q (pc, ls, st, h, g) := by
  split at hx
  · obtain ⟨h0, h1⟩ := i_jc hx
    rcases h1 with ⟨h1, rfl⟩ | ⟨h1, rfl⟩
    · exact ⟨Nat.le_refl _, fun q => q, fun F _ _ k9 => s_ifc F hd h0 (fun _ => k9) (fun q => by rw [h1] at q; cases q)⟩
    · exact ⟨Nat.le_refl _, fun q => q, fun F _ _ k9 => s_ifc F hd h0 (fun q => by rw [h1] at q; cases q) (fun _ => k9)⟩
  · cases hx
theorem n_tsw {d lo hi : Int} {os : Array Int} {len : Nat} (hd : decode (mC mi) pc = .ok (.tableswitch d lo hi os, len)) (hx : tsw d lo hi os pc ls st h g = some (.inl k)) : g.1 ≤ k.2.2.2.2.1 ∧ (g.1 ≤ nCell → k.2.2.2.2.1 ≤ nCell) ∧ ∀ (_ : FO base ad z cA D p s m args meth c mi) (_ : RoomOK R mi n0 k.2.2.2.2.1) (_ : n0 ≤ g.1) (_ : WG base ad cA D n0 mi p l e R s m args below meth c Q k), WG base ad cA D n0 mi p l e R s m args below meth c Q (pc, ls, st, h, g) := by
  unfold tsw at hx
  split at hx
  · split at hx
    · rename_i h1
      obtain ⟨h0, rfl⟩ := i_jmp hx
      exact ⟨Nat.le_refl _, fun q => q, fun F _ _ k9 => s_tableOut F hd h1 h0 k9⟩
    · rename_i h1
      split at hx
      · rename_i h2
        obtain ⟨h0, rfl⟩ := i_jmp hx
        exact ⟨Nat.le_refl _, fun q => q, fun F _ _ k9 => s_tableIn F hd h1 h2 h0 k9⟩
      · cases hx
  · cases hx
theorem n_lsw {d : Int} {ps : Array (Int × Int)} {len : Nat} (hd : decode (mC mi) pc = .ok (.lookupswitch d ps, len)) (hx : lsw d ps pc ls st h g = some (.inl k)) : g.1 ≤ k.2.2.2.2.1 ∧ (g.1 ≤ nCell → k.2.2.2.2.1 ≤ nCell) ∧ ∀ (_ : FO base ad z cA D p s m args meth c mi) (_ : RoomOK R mi n0 k.2.2.2.2.1) (_ : n0 ≤ g.1) (_ : WG base ad cA D n0 mi p l e R s m args below meth c Q k), WG base ad cA D n0 mi p l e R s m args below meth c Q (pc, ls, st, h, g) := by
  unfold lsw at hx
  split at hx
  · split at hx
    · rename_i h1
      obtain ⟨h0, rfl⟩ := i_jmp hx
      exact ⟨Nat.le_refl _, fun q => q, fun F _ _ k9 => s_lookup F hd h1 h0 k9⟩
    · cases hx
  · cases hx
theorem n_iaload  (hd : decode (mC mi) pc = .ok (.iaload, 1)) (hx : aldI z 10 pc ls st h g = some (.inl k)) : g.1 ≤ k.2.2.2.2.1 ∧ (g.1 ≤ nCell → k.2.2.2.2.1 ≤ nCell) ∧ ∀ (_ : FO base ad z cA D p s m args meth c mi) (_ : RoomOK R mi n0 k.2.2.2.2.1) (_ : n0 ≤ g.1) (_ : WG base ad cA D n0 mi p l e R s m args below meth c Q k), WG base ad cA D n0 mi p l e R s m args below meth c Q (pc, ls, st, h, g) := by
  unfold aldI at hx
  split at hx
  · split at hx
    · rename_i h1
      unfold ald at h1
      split at h1
      · rename_i ho
        split at h1
        · rename_i hb
          cases h1
          obtain rfl := inl_inj hx
          exact ⟨Nat.le_refl _, fun q => q, fun F _ _ k9 => s_iaload F hd ho hb.1 hb.2 k9⟩
        · cases h1
      · split at h1
        · rename_i hr
          split at h1
          · rename_i hb
            cases h1
            obtain rfl := inl_inj hx
            exact ⟨Nat.le_refl _, fun q => q, fun F _ _ k9 => s_ialoadR F hd hr.1 hb.1 hb.2 k9⟩
          · cases h1
        · cases h1
    · cases hx
  · cases hx
theorem n_baload  (hd : decode (mC mi) pc = .ok (.baload, 1)) (hx : aldI z 17 pc ls st h g = some (.inl k)) : g.1 ≤ k.2.2.2.2.1 ∧ (g.1 ≤ nCell → k.2.2.2.2.1 ≤ nCell) ∧ ∀ (_ : FO base ad z cA D p s m args meth c mi) (_ : RoomOK R mi n0 k.2.2.2.2.1) (_ : n0 ≤ g.1) (_ : WG base ad cA D n0 mi p l e R s m args below meth c Q k), WG base ad cA D n0 mi p l e R s m args below meth c Q (pc, ls, st, h, g) := by
  unfold aldI at hx
  split at hx
  · split at hx
    · rename_i h1
      unfold ald at h1
      split at h1
      · rename_i ho
        split at h1
        · rename_i hb
          cases h1
          obtain rfl := inl_inj hx
          exact absurd (no17 ho) id
        · cases h1
      · split at h1
        · rename_i hr
          split at h1
          · rename_i hb
            cases h1
            obtain rfl := inl_inj hx
            exact ⟨Nat.le_refl _, fun q => q, fun F _ _ k9 => s_baloadR F hd hr.1 hb.1 hb.2 k9⟩
          · cases h1
        · cases h1
    · cases hx
  · cases hx
theorem n_caload  (hd : decode (mC mi) pc = .ok (.caload, 1)) (hx : aldI z 12 pc ls st h g = some (.inl k)) : g.1 ≤ k.2.2.2.2.1 ∧ (g.1 ≤ nCell → k.2.2.2.2.1 ≤ nCell) ∧ ∀ (_ : FO base ad z cA D p s m args meth c mi) (_ : RoomOK R mi n0 k.2.2.2.2.1) (_ : n0 ≤ g.1) (_ : WG base ad cA D n0 mi p l e R s m args below meth c Q k), WG base ad cA D n0 mi p l e R s m args below meth c Q (pc, ls, st, h, g) := by
  unfold aldI at hx
  split at hx
  · split at hx
    · rename_i h1
      unfold ald at h1
      split at h1
      · rename_i ho
        split at h1
        · rename_i hb
          cases h1
          obtain rfl := inl_inj hx
          exact ⟨Nat.le_refl _, fun q => q, fun F _ _ k9 => s_caload F hd ho hb.1 hb.2 k9⟩
        · cases h1
      · split at h1
        · rename_i hr
          split at h1
          · rename_i hb
            cases h1
            obtain rfl := inl_inj hx
            exact absurd hr.1 (roK_12 _)
          · cases h1
        · cases h1
    · cases hx
  · cases hx
theorem n_laload  (hd : decode (mC mi) pc = .ok (.laload, 1)) (hx : aldL pc ls st h g = some (.inl k)) : g.1 ≤ k.2.2.2.2.1 ∧ (g.1 ≤ nCell → k.2.2.2.2.1 ≤ nCell) ∧ ∀ (_ : FO base ad z cA D p s m args meth c mi) (_ : RoomOK R mi n0 k.2.2.2.2.1) (_ : n0 ≤ g.1) (_ : WG base ad cA D n0 mi p l e R s m args below meth c Q k), WG base ad cA D n0 mi p l e R s m args below meth c Q (pc, ls, st, h, g) := by
  unfold aldL at hx
  split at hx
  · split at hx
    · rename_i h1
      obtain rfl := inl_inj hx
      exact ⟨Nat.le_refl _, fun q => q, fun F _ _ k9 => s_laload F hd h1.1 h1.2.1 h1.2.2 k9⟩
    · cases hx
  · cases hx
theorem n_aaload  (hd : decode (mC mi) pc = .ok (.aaload, 1)) (hx : aldR pc ls st h g = some (.inl k)) : g.1 ≤ k.2.2.2.2.1 ∧ (g.1 ≤ nCell → k.2.2.2.2.1 ≤ nCell) ∧ ∀ (_ : FO base ad z cA D p s m args meth c mi) (_ : RoomOK R mi n0 k.2.2.2.2.1) (_ : n0 ≤ g.1) (_ : WG base ad cA D n0 mi p l e R s m args below meth c Q k), WG base ad cA D n0 mi p l e R s m args below meth c Q (pc, ls, st, h, g) := by
  unfold aldR at hx
  split at hx
  · split at hx
    · rename_i h1
      obtain rfl := inl_inj hx
      exact ⟨Nat.le_refl _, fun q => q, fun F _ _ k9 => s_aaload F hd h1.1 h1.2.1 h1.2.2.1 h1.2.2.2 k9⟩
    · cases hx
  · cases hx
theorem n_iastore  (hd : decode (mC mi) pc = .ok (.iastore, 1)) (hx : astI 10 (fun _ => true) pc ls st h g = some (.inl k)) : g.1 ≤ k.2.2.2.2.1 ∧ (g.1 ≤ nCell → k.2.2.2.2.1 ≤ nCell) ∧ ∀ (_ : FO base ad z cA D p s m args meth c mi) (_ : RoomOK R mi n0 k.2.2.2.2.1) (_ : n0 ≤ g.1) (_ : WG base ad cA D n0 mi p l e R s m args below meth c Q k), WG base ad cA D n0 mi p l e R s m args below meth c Q (pc, ls, st, h, g) := by
  unfold astI at hx
  split at hx
  · split at hx
    · rename_i h1
      obtain rfl := inl_inj hx
      exact ⟨Nat.le_refl _, fun q => q, fun F _ _ k9 => s_iastore F hd h1.1 h1.2.1 h1.2.2.1 k9⟩
    · cases hx
  · cases hx
theorem n_castore  (hd : decode (mC mi) pc = .ok (.castore, 1)) (hx : astI 12 (fun v => decide (0 ≤ v ∧ v ≤ 65535)) pc ls st h g = some (.inl k)) : g.1 ≤ k.2.2.2.2.1 ∧ (g.1 ≤ nCell → k.2.2.2.2.1 ≤ nCell) ∧ ∀ (_ : FO base ad z cA D p s m args meth c mi) (_ : RoomOK R mi n0 k.2.2.2.2.1) (_ : n0 ≤ g.1) (_ : WG base ad cA D n0 mi p l e R s m args below meth c Q k), WG base ad cA D n0 mi p l e R s m args below meth c Q (pc, ls, st, h, g) := by
  unfold astI at hx
  split at hx
  · split at hx
    · rename_i h1
      obtain rfl := inl_inj hx
      exact ⟨Nat.le_refl _, fun q => q, fun F _ _ k9 => s_castore F hd h1.1 h1.2.1 h1.2.2.1 (nar_c (by simpa using h1.2.2.2)) k9⟩
    · cases hx
  · cases hx
theorem n_lastore  (hd : decode (mC mi) pc = .ok (.lastore, 1)) (hx : astL pc ls st h g = some (.inl k)) : g.1 ≤ k.2.2.2.2.1 ∧ (g.1 ≤ nCell → k.2.2.2.2.1 ≤ nCell) ∧ ∀ (_ : FO base ad z cA D p s m args meth c mi) (_ : RoomOK R mi n0 k.2.2.2.2.1) (_ : n0 ≤ g.1) (_ : WG base ad cA D n0 mi p l e R s m args below meth c Q k), WG base ad cA D n0 mi p l e R s m args below meth c Q (pc, ls, st, h, g) := by
  unfold astL at hx
  split at hx
  · split at hx
    · rename_i h1
      obtain rfl := inl_inj hx
      exact ⟨Nat.le_refl _, fun q => q, fun F _ _ k9 => s_lastore F hd h1.1 h1.2.1 h1.2.2 k9⟩
    · cases hx
  · cases hx
theorem n_aastore  (hd : decode (mC mi) pc = .ok (.aastore, 1)) (hx : astR pc ls st h g = some (.inl k)) : g.1 ≤ k.2.2.2.2.1 ∧ (g.1 ≤ nCell → k.2.2.2.2.1 ≤ nCell) ∧ ∀ (_ : FO base ad z cA D p s m args meth c mi) (_ : RoomOK R mi n0 k.2.2.2.2.1) (_ : n0 ≤ g.1) (_ : WG base ad cA D n0 mi p l e R s m args below meth c Q k), WG base ad cA D n0 mi p l e R s m args below meth c Q (pc, ls, st, h, g) := by
  unfold astR at hx
  split at hx
  · split at hx
    · rename_i h1
      obtain rfl := inl_inj hx
      exact ⟨Nat.le_refl _, fun q => q, fun F _ _ k9 => s_aastore F hd (elt_k h1.2.1) h1.1 h1.2.1 h1.2.2.1 h1.2.2.2 k9⟩
    · cases hx
  · cases hx
theorem n_alen (hz : 0 ≤ z (-1)) (hd : decode (mC mi) pc = .ok (.arraylength, 1)) (hx : alenI z pc ls st h g = some (.inl k)) : g.1 ≤ k.2.2.2.2.1 ∧ (g.1 ≤ nCell → k.2.2.2.2.1 ≤ nCell) ∧ ∀ (_ : FO base ad z cA D p s m args meth c mi) (_ : RoomOK R mi n0 k.2.2.2.2.1) (_ : n0 ≤ g.1) (_ : WG base ad cA D n0 mi p l e R s m args below meth c Q k), WG base ad cA D n0 mi p l e R s m args below meth c Q (pc, ls, st, h, g) := by
  unfold alenI at hx
  split at hx
  · split at hx
    · rename_i h1
      obtain rfl := inl_inj hx
      exact ⟨Nat.le_refl _, fun q => q, fun F _ _ k9 => s_alen F hd h1.1 h1.2.1 h1.2.2 k9⟩
    · split at hx
      · rename_i h1
        obtain rfl := inl_inj hx
        exact ⟨Nat.le_refl _, fun q => q, fun F _ _ k9 => s_alenR F hd (roK_10 h1) (roN_0 hz h1) k9⟩
      · cases hx
  · cases hx

end FRG
end
section
/-! ===== every step of the plain machine is a step of the machine, 2 ===== -/
theorem tyI_put {ci k : Nat} {v : Int} (hci : ci < 9) (hk : k < (vwCl.getD ci (RX0, TX0, 0)).2.2) (hf : fty ci k = 0) (hb : v = 0 ∨ v = 1 ∨ ¬ parseFieldDescriptor ((vwCl.getD ci (RX0, TX0, 0)).2.1 k).2.2.1 = some .boolean) : narrow (tyOf ci k) (.int (Int32.ofInt v)) = .int (Int32.ofInt v) ∧ fits (tyOf ci k) (.int (Int32.ofInt v)) = true := by
  obtain ⟨r, hr, hrd, -, hfl, -⟩ := cl_get hci
  rw [hrd] at hk hb
  obtain ⟨-, d2, -, d4, -⟩ := hfl k hk
  rcases d4 hf with h | h
  · rw [h]
    exact ⟨rfl, rfl⟩
  · rw [h]
    rw [d2, h] at hb
    rcases hb with rfl | rfl | hb
    · exact ⟨rfl, rfl⟩
    · exact ⟨rfl, rfl⟩
    · exact absurd rfl hb
theorem tyR_put {ci k : Nat} {a : Nat} (hci : ci < 9) (hk : k < (vwCl.getD ci (RX0, TX0, 0)).2.2) (hf : ¬ fty ci k = 0) : narrow (tyOf ci k) (.ref a) = .ref a ∧ fits (tyOf ci k) (.ref a) = true := by
  obtain ⟨r, hr, hrd, -, hfl, -⟩ := cl_get hci
  rw [hrd] at hk
  have h := (hfl k hk).2.2.2.2.1 hf
  cases ht : tyOf ci k with
  | object _ => exact ⟨rfl, rfl⟩
  | array _ => exact ⟨rfl, rfl⟩
  | _ => rw [ht] at h; cases h
section FRH
variable {base : Nat} {ad : Int → Nat} {z : Int → Int} {cA : Nat → ClassId} {D : va_G} {n0 mi : Nat} {p : Program} {l : Launch} {e : Env} {R : Room} {s : State} {m : MethodId} {args : Array Value} {below : List Frame} {meth : Method} {c : Code} {Q : State → Prop}
variable {pc : Nat} {ls : PL} {st : List PV} {h : PH} {g : PG} {k : Cfg}
theorem n_iconst {i : Int} (hd : decode (mC mi) pc = .ok (.iconst i, 1)) (hx : nx (pc + 1) ls (.inl i :: st) h g = some (.inl k)) : g.1 ≤ k.2.2.2.2.1 ∧ (g.1 ≤ nCell → k.2.2.2.2.1 ≤ nCell) ∧ ∀ (_ : FO base ad z cA D p s m args meth c mi) (_ : RoomOK R mi n0 k.2.2.2.2.1) (_ : n0 ≤ g.1) (_ : WG base ad cA D n0 mi p l e R s m args below meth c Q k), WG base ad cA D n0 mi p l e R s m args below meth c Q (pc, ls, st, h, g) := by
  obtain rfl := inl_inj hx
  exact ⟨Nat.le_refl _, fun q => q, fun F _ _ k9 => s_iconst F hd k9⟩
theorem n_bipush {i : Int} (hi : -128 ≤ i ∧ i ≤ 127) (hd : decode (mC mi) pc = .ok (.bipush i, 2)) (hx : nx (pc + 2) ls (.inl i :: st) h g = some (.inl k)) : g.1 ≤ k.2.2.2.2.1 ∧ (g.1 ≤ nCell → k.2.2.2.2.1 ≤ nCell) ∧ ∀ (_ : FO base ad z cA D p s m args meth c mi) (_ : RoomOK R mi n0 k.2.2.2.2.1) (_ : n0 ≤ g.1) (_ : WG base ad cA D n0 mi p l e R s m args below meth c Q k), WG base ad cA D n0 mi p l e R s m args below meth c Q (pc, ls, st, h, g) := by
  obtain rfl := inl_inj hx
  exact ⟨Nat.le_refl _, fun q => q, fun F _ _ k9 => s_bipush F hd hi k9⟩
theorem n_sipush {i : Int} (hi : -32768 ≤ i ∧ i ≤ 32767) (hd : decode (mC mi) pc = .ok (.sipush i, 3)) (hx : nx (pc + 3) ls (.inl i :: st) h g = some (.inl k)) : g.1 ≤ k.2.2.2.2.1 ∧ (g.1 ≤ nCell → k.2.2.2.2.1 ≤ nCell) ∧ ∀ (_ : FO base ad z cA D p s m args meth c mi) (_ : RoomOK R mi n0 k.2.2.2.2.1) (_ : n0 ≤ g.1) (_ : WG base ad cA D n0 mi p l e R s m args below meth c Q k), WG base ad cA D n0 mi p l e R s m args below meth c Q (pc, ls, st, h, g) := by
  obtain rfl := inl_inj hx
  exact ⟨Nat.le_refl _, fun q => q, fun F _ _ k9 => s_sipush F hd hi k9⟩
theorem n_lconst {i : Fin 2} (hd : decode (mC mi) pc = .ok (.lconst i, 1)) (hx : nx (pc + 1) ls (.inr (.inl ((i : Nat) : Int)) :: st) h g = some (.inl k)) : g.1 ≤ k.2.2.2.2.1 ∧ (g.1 ≤ nCell → k.2.2.2.2.1 ≤ nCell) ∧ ∀ (_ : FO base ad z cA D p s m args meth c mi) (_ : RoomOK R mi n0 k.2.2.2.2.1) (_ : n0 ≤ g.1) (_ : WG base ad cA D n0 mi p l e R s m args below meth c Q k), WG base ad cA D n0 mi p l e R s m args below meth c Q (pc, ls, st, h, g) := by
  obtain rfl := inl_inj hx
  exact ⟨Nat.le_refl _, fun q => q, fun F _ _ k9 => s_lconst F hd k9⟩
theorem n_getfield {i : Nat} (hd : decode (mC mi) pc = .ok (.getfield i, 3)) (hx : getF (mO mi) i pc ls st h g = some (.inl k)) : g.1 ≤ k.2.2.2.2.1 ∧ (g.1 ≤ nCell → k.2.2.2.2.1 ≤ nCell) ∧ ∀ (_ : FO base ad z cA D p s m args meth c mi) (_ : RoomOK R mi n0 k.2.2.2.2.1) (_ : n0 ≤ g.1) (_ : WG base ad cA D n0 mi p l e R s m args below meth c Q k), WG base ad cA D n0 mi p l e R s m args below meth c Q (pc, ls, st, h, g) := by
  unfold getF at hx
  split at hx
  · rename_i a9 s9
    split at hx
    · rename_i ci k8 b hf
      split at hx
      · rename_i ho
        split at hx
        · rename_i f0
          obtain rfl := inl_inj hx
          exact ⟨Nat.le_refl _, fun q => q, fun F _ _ k9 => s_get (v := .inl _) F hd hf ho (if_pos f0) k9⟩
        · rename_i f0
          split at hx
          · rename_i f1
            split at hx
            · rename_i h1
              obtain rfl := inl_inj hx
              exact ⟨Nat.le_refl _, fun q => q, fun F _ _ k9 => s_get (v := .inr (.inr _)) F hd hf ho ((if_neg f0).trans ((if_pos f1).trans (rnv_ref h1))) k9⟩
            · cases hx
          · rename_i f1
            split at hx
            · split at hx
              · rename_i f2 h1
                obtain rfl := inl_inj hx
                exact ⟨Nat.le_refl _, fun q => q, fun F _ _ k9 => s_get (v := .inr (.inr _)) F hd hf ho ((if_neg f0).trans ((if_neg f1).trans (rnv_ref h1))) k9⟩
              · cases hx
            · cases hx
      · cases hx
    · split at hx
      · rename_i h1
        have e1 : a9 = 1010 + ((a9 - 1010).toNat : Int) := by omega
        split at hx
        · rename_i hi
          subst hi
          obtain rfl := inl_inj hx
          refine ⟨Nat.le_refl _, fun q => q, fun F _ _ k9 => ?_⟩
          rw [e1]
          refine s_strVal (q := (a9 - 1010).toNat) F h1.1 (by omega) hd ?_
          rw [show (1020 : Int) + ((a9 - 1010).toNat : Int) = a9 + 10 by omega]
          exact k9
        · split at hx
          · rename_i hi
            subst hi
            obtain rfl := inl_inj hx
            refine ⟨Nat.le_refl _, fun q => q, fun F _ _ k9 => ?_⟩
            rw [e1]
            exact s_strCod (q := (a9 - 1010).toNat) F h1.1 (by omega) hd k9
          · cases hx
      · cases hx
  · cases hx
theorem n_putfield {i : Nat} (hd : decode (mC mi) pc = .ok (.putfield i, 3)) (hx : putF (decide (mK mi = 2)) (mO mi) i pc ls st h g = some (.inl k)) : g.1 ≤ k.2.2.2.2.1 ∧ (g.1 ≤ nCell → k.2.2.2.2.1 ≤ nCell) ∧ ∀ (_ : FO base ad z cA D p s m args meth c mi) (_ : RoomOK R mi n0 k.2.2.2.2.1) (_ : n0 ≤ g.1) (_ : WG base ad cA D n0 mi p l e R s m args below meth c Q k), WG base ad cA D n0 mi p l e R s m args below meth c Q (pc, ls, st, h, g) := by
  unfold putF at hx
  split at hx
  · rename_i ci k8 b hf
    obtain ⟨e9, he, e1, e2, e3, e4, e5, hci, hk, hw⟩ := fldT_spec hf
    split at hx
    · split at hx
      · rename_i v a s2 h1
        obtain rfl := inl_inj hx
        obtain ⟨t1, t2⟩ := tyI_put hci hk h1.2.1 h1.2.2
        exact ⟨Nat.le_refl _, fun q => q, fun F _ _ k9 => s_put (v := .inl v) (h' := u2 h a k8 v) (g' := g) F hd hf h1.1 rfl (fun b hb j => if_neg hb) (fun _ _ _ => rfl) ((if_pos h1.2.1).trans (congrArg (fun x => Value.int (Int32.ofInt x)) (u2_s.trans (if_pos rfl)))) (fun j hj => by have q9 : ¬ (j : Int) = (k8 : Int) := (by omega); simp only [slotV, u2_s, if_neg q9]) t1 t2 (fun q => by rw [h1.2.1] at q; cases q) k9⟩
      · cases hx
    · split at hx
      · rename_i v a s2 h1
        split at hx
        · rename_i h2
          obtain rfl := inl_inj hx
          obtain ⟨t1, t2⟩ := tyR_put (a := ad v) hci hk (by rw [h2.1]; decide)
          exact ⟨Nat.le_refl _, fun q => q, fun F _ _ k9 => s_put (v := .inr (.inr v)) (h' := h) (g' := (g.1, u2 g.2 a k8 v)) F hd hf h1.1 rfl (fun _ _ _ => rfl) (fun b hb j => if_neg hb) ((if_neg (by rw [h2.1]; decide)).trans ((if_pos h2.1).trans ((congrArg (fun x => va_rf (rnv ad x)) (u2_s.trans (if_pos rfl))).trans (rnv_ref h1.2)))) (fun j hj => by have q9 : ¬ (j : Int) = (k8 : Int) := (by omega); simp only [slotV, u2_s, if_neg q9]) t1 t2 (fun _ => ⟨by simpa using h2.2.1, h2.2.2⟩) k9⟩
        · split at hx
          · rename_i h2
            obtain rfl := inl_inj hx
            obtain ⟨t1, t2⟩ := tyR_put (a := ad v) hci hk (by rw [h2]; decide)
            exact ⟨Nat.le_refl _, fun q => q, fun F _ _ k9 => s_put (v := .inr (.inr v)) (h' := u2 h a k8 v) (g' := g) F hd hf h1.1 rfl (fun b hb j => if_neg hb) (fun _ _ _ => rfl) ((if_neg (by rw [h2]; decide)).trans ((if_neg (by rw [h2]; decide)).trans ((congrArg (fun x => va_rf (rnv ad x)) (u2_s.trans (if_pos rfl))).trans (rnv_ref h1.2)))) (fun j hj => by have q9 : ¬ (j : Int) = (k8 : Int) := (by omega); simp only [slotV, u2_s, if_neg q9]) t1 t2 (fun q => by rw [h2] at q; cases q) k9⟩
          · cases hx
      · cases hx
    · cases hx
  · cases hx
theorem n_getstatic {i : Nat} (hd : decode (mC mi) pc = .ok (.getstatic i, 3)) (hx : getS (mO mi) i pc ls st h g = some (.inl k)) : g.1 ≤ k.2.2.2.2.1 ∧ (g.1 ≤ nCell → k.2.2.2.2.1 ≤ nCell) ∧ ∀ (_ : FO base ad z cA D p s m args meth c mi) (_ : RoomOK R mi n0 k.2.2.2.2.1) (_ : n0 ≤ g.1) (_ : WG base ad cA D n0 mi p l e R s m args below meth c Q k), WG base ad cA D n0 mi p l e R s m args below meth c Q (pc, ls, st, h, g) := by
  unfold getS at hx
  split at hx
  · rename_i h1
    obtain ⟨h1, rfl⟩ := h1
    obtain rfl := inl_inj hx
    exact ⟨Nat.le_refl _, fun q => q, fun F _ _ k9 => s_kindAbove F h1 hd k9⟩
  · split at hx
    · rename_i h1
      obtain ⟨h1, rfl⟩ := h1
      obtain rfl := inl_inj hx
      exact ⟨Nat.le_refl _, fun q => q, fun F _ _ k9 => s_numbersBehind F h1 hd k9⟩
    · split at hx
      · rename_i h1
        obtain ⟨h1, rfl⟩ := h1
        obtain rfl := inl_inj hx
        exact ⟨Nat.le_refl _, fun q => q, fun F _ _ k9 => s_compact F h1 hd k9⟩
      · cases hx
theorem n_ldc {i : Nat} (hd : decode (mC mi) pc = .ok (.ldc i, 2)) (hx : (match cstT (mO mi) i with
    | some v => nx (pc + 2) ls (.inl v :: st) h g
    | none => match strT (mO mi) i with
      | some q => nx (pc + 2) ls (.inr (.inr (1010 + (q : Int))) :: st) h g
      | none => none) = some (.inl k)) : g.1 ≤ k.2.2.2.2.1 ∧ (g.1 ≤ nCell → k.2.2.2.2.1 ≤ nCell) ∧ ∀ (_ : FO base ad z cA D p s m args meth c mi) (_ : RoomOK R mi n0 k.2.2.2.2.1) (_ : n0 ≤ g.1) (_ : WG base ad cA D n0 mi p l e R s m args below meth c Q k), WG base ad cA D n0 mi p l e R s m args below meth c Q (pc, ls, st, h, g) := by
  split at hx
  · rename_i h1
    obtain rfl := inl_inj hx
    exact ⟨Nat.le_refl _, fun q => q, fun F _ _ k9 => s_ldc F hd h1 k9⟩
  · split at hx
    · rename_i h1
      obtain rfl := inl_inj hx
      exact ⟨Nat.le_refl _, fun q => q, fun F _ _ k9 => s_ldcS F hd h1 k9⟩
    · cases hx
theorem n_ldcw {i : Nat} (hd : decode (mC mi) pc = .ok (.ldc_w i, 3)) (hx : (match cstT (mO mi) i with
    | some v => nx (pc + 3) ls (.inl v :: st) h g
    | none => none) = some (.inl k)) : g.1 ≤ k.2.2.2.2.1 ∧ (g.1 ≤ nCell → k.2.2.2.2.1 ≤ nCell) ∧ ∀ (_ : FO base ad z cA D p s m args meth c mi) (_ : RoomOK R mi n0 k.2.2.2.2.1) (_ : n0 ≤ g.1) (_ : WG base ad cA D n0 mi p l e R s m args below meth c Q k), WG base ad cA D n0 mi p l e R s m args below meth c Q (pc, ls, st, h, g) := by
  split at hx
  · rename_i h1
    obtain rfl := inl_inj hx
    exact ⟨Nat.le_refl _, fun q => q, fun F _ _ k9 => s_ldcw F hd h1 k9⟩
  · cases hx
theorem n_ldc2 {i : Nat} (hd : decode (mC mi) pc = .ok (.ldc2_w i, 3)) (hx : (match clgT (mO mi) i with
    | some v => nx (pc + 3) ls (.inr (.inl v) :: st) h g
    | none => none) = some (.inl k)) : g.1 ≤ k.2.2.2.2.1 ∧ (g.1 ≤ nCell → k.2.2.2.2.1 ≤ nCell) ∧ ∀ (_ : FO base ad z cA D p s m args meth c mi) (_ : RoomOK R mi n0 k.2.2.2.2.1) (_ : n0 ≤ g.1) (_ : WG base ad cA D n0 mi p l e R s m args below meth c Q k), WG base ad cA D n0 mi p l e R s m args below meth c Q (pc, ls, st, h, g) := by
  split at hx
  · rename_i h1
    obtain rfl := inl_inj hx
    exact ⟨Nat.le_refl _, fun q => q, fun F _ _ k9 => s_ldc2 F hd h1 k9⟩
  · cases hx
theorem n_new {i : Nat} (hd : decode (mC mi) pc = .ok (.new i, 3)) (hx : newO (mO mi) i pc ls st h g = some (.inl k)) : g.1 ≤ k.2.2.2.2.1 ∧ (g.1 ≤ nCell → k.2.2.2.2.1 ≤ nCell) ∧ ∀ (_ : FO base ad z cA D p s m args meth c mi) (_ : RoomOK R mi n0 k.2.2.2.2.1) (_ : n0 ≤ g.1) (_ : WG base ad cA D n0 mi p l e R s m args below meth c Q k), WG base ad cA D n0 mi p l e R s m args below meth c Q (pc, ls, st, h, g) := by
  unfold newO at hx
  split at hx
  · rename_i ci h1
    split at hx
    · rename_i h2
      obtain rfl := inl_inj hx
      exact ⟨Nat.le_succ _, fun _ => h2.2.1, fun F r9 n9 k9 => s_new F hd h1 h2.1 h2.2.1 h2.2.2 n9 r9.2.2.1 r9.2.2.2 k9⟩
    · cases hx
  · cases hx
theorem n_newarrI  (hd : decode (mC mi) pc = .ok (.newarray .int, 2)) (hx : newA 10 2 pc ls st h g = some (.inl k)) : g.1 ≤ k.2.2.2.2.1 ∧ (g.1 ≤ nCell → k.2.2.2.2.1 ≤ nCell) ∧ ∀ (_ : FO base ad z cA D p s m args meth c mi) (_ : RoomOK R mi n0 k.2.2.2.2.1) (_ : n0 ≤ g.1) (_ : WG base ad cA D n0 mi p l e R s m args below meth c Q k), WG base ad cA D n0 mi p l e R s m args below meth c Q (pc, ls, st, h, g) := by
  unfold newA at hx
  split at hx
  · split at hx
    · rename_i h2
      obtain rfl := inl_inj hx
      exact ⟨Nat.le_succ _, fun _ => h2.2.2.1, fun F r9 n9 k9 => s_newarrI F hd h2.1 h2.2.1 h2.2.2.1 h2.2.2.2 n9 r9.2.2.1 r9.2.2.2 k9⟩
    · cases hx
  · cases hx
theorem n_newarrJ  (hd : decode (mC mi) pc = .ok (.newarray .long, 2)) (hx : newA 11 2 pc ls st h g = some (.inl k)) : g.1 ≤ k.2.2.2.2.1 ∧ (g.1 ≤ nCell → k.2.2.2.2.1 ≤ nCell) ∧ ∀ (_ : FO base ad z cA D p s m args meth c mi) (_ : RoomOK R mi n0 k.2.2.2.2.1) (_ : n0 ≤ g.1) (_ : WG base ad cA D n0 mi p l e R s m args below meth c Q k), WG base ad cA D n0 mi p l e R s m args below meth c Q (pc, ls, st, h, g) := by
  unfold newA at hx
  split at hx
  · split at hx
    · rename_i h2
      obtain rfl := inl_inj hx
      exact ⟨Nat.le_succ _, fun _ => h2.2.2.1, fun F r9 n9 k9 => s_newarrJ F hd h2.1 h2.2.1 h2.2.2.1 h2.2.2.2 n9 r9.2.2.1 r9.2.2.2 k9⟩
    · cases hx
  · cases hx
theorem n_newarrC  (hd : decode (mC mi) pc = .ok (.newarray .char, 2)) (hx : newA 12 2 pc ls st h g = some (.inl k)) : g.1 ≤ k.2.2.2.2.1 ∧ (g.1 ≤ nCell → k.2.2.2.2.1 ≤ nCell) ∧ ∀ (_ : FO base ad z cA D p s m args meth c mi) (_ : RoomOK R mi n0 k.2.2.2.2.1) (_ : n0 ≤ g.1) (_ : WG base ad cA D n0 mi p l e R s m args below meth c Q k), WG base ad cA D n0 mi p l e R s m args below meth c Q (pc, ls, st, h, g) := by
  unfold newA at hx
  split at hx
  · split at hx
    · rename_i h2
      obtain rfl := inl_inj hx
      exact ⟨Nat.le_succ _, fun _ => h2.2.2.1, fun F r9 n9 k9 => s_newarrC F hd h2.1 h2.2.1 h2.2.2.1 h2.2.2.2 n9 r9.2.2.1 r9.2.2.2 k9⟩
    · cases hx
  · cases hx
theorem no97_all : (List.range nCell).all (fun a => decide (¬ (shL.getD a (99, 0)).1 = 97)) = true := by decide +kernel
theorem n_anew {i : Nat} (hd : decode (mC mi) pc = .ok (.anewarray i, 3)) (hx : (match clsT (mO mi) i with
    | some c => newA (aRow c) 3 pc ls st h g
    | none => none) = some (.inl k)) : g.1 ≤ k.2.2.2.2.1 ∧ (g.1 ≤ nCell → k.2.2.2.2.1 ≤ nCell) ∧ ∀ (_ : FO base ad z cA D p s m args meth c mi) (_ : RoomOK R mi n0 k.2.2.2.2.1) (_ : n0 ≤ g.1) (_ : WG base ad cA D n0 mi p l e R s m args below meth c Q k), WG base ad cA D n0 mi p l e R s m args below meth c Q (pc, ls, st, h, g) := by
  split at hx
  · rename_i ci h1
    unfold newA at hx
    split at hx
    · split at hx
      · rename_i h2
        obtain rfl := inl_inj hx
        have hk : (ci = 1 ∧ aRow ci = 13) ∨ (ci = 4 ∧ aRow ci = 14) ∨ (ci = 5 ∧ aRow ci = 15) := by
          by_cases q1 : ci = 1
          · subst q1; exact Or.inl ⟨rfl, rfl⟩
          · by_cases q4 : ci = 4
            · subst q4; exact Or.inr (Or.inl ⟨rfl, rfl⟩)
            · by_cases q5 : ci = 5
              · subst q5; exact Or.inr (Or.inr ⟨rfl, rfl⟩)
              · exfalso
                have e9 : aRow ci = 97 := by unfold aRow; rw [if_neg q1, if_neg q4, if_neg q5]
                have h3 := h2.2.2.2
                rw [e9] at h3
                exact of_decide_eq_true (List.all_eq_true.mp no97_all g.1 (List.mem_range.mpr h2.2.2.1)) (by rw [h3])
        exact ⟨Nat.le_succ _, fun _ => h2.2.2.1, fun F r9 n9 k9 => s_anew F hd h1 hk h2.1 h2.2.1 h2.2.2.1 h2.2.2.2 n9 r9.2.2.1 r9.2.2.2 k9⟩
      · cases hx
    · cases hx
  · cases hx
theorem n_multi {i : Nat} (hc : clsT (mO mi) i = some 16) (hd : decode (mC mi) pc = .ok (.multianewarray i 2, 4)) (hx : newM pc ls st h g = some (.inl k)) : g.1 ≤ k.2.2.2.2.1 ∧ (g.1 ≤ nCell → k.2.2.2.2.1 ≤ nCell) ∧ ∀ (_ : FO base ad z cA D p s m args meth c mi) (_ : RoomOK R mi n0 k.2.2.2.2.1) (_ : n0 ≤ g.1) (_ : WG base ad cA D n0 mi p l e R s m args below meth c Q k), WG base ad cA D n0 mi p l e R s m args below meth c Q (pc, ls, st, h, g) := by
  unfold newM at hx
  split at hx
  · split at hx
    · rename_i h2
      obtain rfl := inl_inj hx
      obtain ⟨a1, a2, a3, a4, a5, a6, a7⟩ := h2
      refine ⟨by show g.1 ≤ g.1 + 1 + _; omega, fun _ => by show g.1 + 1 + _ ≤ nCell; omega, fun F r9 n9 k9 => s_multi F hd hc a1 a2 a3 a4 a5 a6 (fun j hj => ?_) n9 r9.2.2.1 r9.2.2.2 rfl rfl k9⟩
      have := List.all_eq_true.mp a7 j (List.mem_range.mpr hj)
      simpa using this
    · cases hx
  · cases hx
theorem n_bltI {i : Nat} (hb9 : bltT (mO mi) i = some 1) (hd : decode (mC mi) pc = .ok (.invokespecial i, 3)) (hx : doBlt mi (mO mi) i pc ls st h g = some (.inl k)) : g.1 ≤ k.2.2.2.2.1 ∧ (g.1 ≤ nCell → k.2.2.2.2.1 ≤ nCell) ∧ ∀ (_ : FO base ad z cA D p s m args meth c mi) (_ : RoomOK R mi n0 k.2.2.2.2.1) (_ : n0 ≤ g.1) (_ : WG base ad cA D n0 mi p l e R s m args below meth c Q k), WG base ad cA D n0 mi p l e R s m args below meth c Q (pc, ls, st, h, g) := by
  unfold doBlt at hx
  split at hx
  · rename_i hr
    rw [hb9] at hx
    simp only at hx
    split at hx
    · split at hx
      · rename_i h1
        obtain rfl := inl_inj hx
        exact ⟨Nat.le_refl _, fun q => q, fun F r9 n9 k9 => s_objInit F hd hb9 (by have := r9.1; omega) (by have := r9.2.1; omega) h1 k9⟩
      · cases hx
    · cases hx
  · cases hx
theorem n_bltS {i : Nat} (hb9 : ¬ bltT (mO mi) i = none) (hb8 : ¬ bltT (mO mi) i = some 1) (hd : decode (mC mi) pc = .ok (.invokestatic i, 3)) (hx : doBlt mi (mO mi) i pc ls st h g = some (.inl k)) : g.1 ≤ k.2.2.2.2.1 ∧ (g.1 ≤ nCell → k.2.2.2.2.1 ≤ nCell) ∧ ∀ (_ : FO base ad z cA D p s m args meth c mi) (_ : RoomOK R mi n0 k.2.2.2.2.1) (_ : n0 ≤ g.1) (_ : WG base ad cA D n0 mi p l e R s m args below meth c Q k), WG base ad cA D n0 mi p l e R s m args below meth c Q (pc, ls, st, h, g) := by
  unfold doBlt at hx
  split at hx
  · rename_i hr
    split at hx
    · rename_i q
      exact absurd q hb8
    · rename_i q
      split at hx
      · split at hx
        · rename_i h1
          obtain rfl := inl_inj hx
          exact ⟨Nat.le_refl _, fun q => q, fun F r9 n9 k9 => s_copy F hd q (by have := r9.1; omega) (by have := r9.2.1; omega) h1.2.2.2.2.2.2.2 h1.1 h1.2.1 h1.2.2.1 h1.2.2.2.1 h1.2.2.2.2.1 h1.2.2.2.2.2.1 h1.2.2.2.2.2.2.1 k9⟩
        · cases hx
      · cases hx
    · rename_i q
      split at hx
      · split at hx
        · rename_i h1
          obtain rfl := inl_inj hx
          exact ⟨Nat.le_refl _, fun q => q, fun F r9 n9 k9 => s_max F hd q (by have := r9.1; omega) (by have := r9.2.1; omega) h1 r9.2.2.1 r9.2.2.2 k9⟩
        · cases hx
      · cases hx
    · rename_i q
      split at hx
      · split at hx
        · rename_i h1
          obtain rfl := inl_inj hx
          exact ⟨Nat.le_refl _, fun q => q, fun F r9 n9 k9 => s_chk F hd q (by have := r9.1; omega) (by have := r9.2.1; omega) h1.2.2 r9.2.2.1 r9.2.2.2 h1.1 h1.2.1 k9⟩
        · cases hx
      · cases hx
    · cases hx
  · cases hx

end FRH
end
section
/-! ===== every step of the plain machine is a step of the machine, 3: all together ===== -/
theorem r_nx {pc : Nat} {ls : PL} {st : List PV} {h : PH} {g : PG} {q} (hx : nx pc ls st h g = some (.inr q)) : False := by unfold nx at hx; cases hx
theorem if_len {n len : Nat} {x : Option SR} {r : SR} (h : (if len = n then x else none) = some r) : len = n ∧ x = some r := by
  by_cases q : len = n
  · rw [if_pos q] at h; exact ⟨q, h⟩
  · rw [if_neg q] at h; cases h
theorem r_bI {f : Int → Int → Int} {pc : Nat} {ls : PL} {st : List PV} {h : PH} {g : PG} {q} (hx : bI f pc ls st h g = some (.inr q)) : False := by
  unfold bI at hx
  repeat' (split at hx)
  all_goals (first | exact (r_nx hx).elim | cases hx)
theorem r_bL {f : Int → Int → Int} {pc : Nat} {ls : PL} {st : List PV} {h : PH} {g : PG} {q} (hx : bL f pc ls st h g = some (.inr q)) : False := by
  unfold bL at hx
  repeat' (split at hx)
  all_goals (first | exact (r_nx hx).elim | cases hx)
theorem r_qI {f : Int → Int → Int} {pc : Nat} {ls : PL} {st : List PV} {h : PH} {g : PG} {q} (hx : qI f pc ls st h g = some (.inr q)) : False := by
  unfold qI at hx
  repeat' (split at hx)
  all_goals (first | exact (r_nx hx).elim | cases hx)
theorem r_qL {f : Int → Int → Int} {pc : Nat} {ls : PL} {st : List PV} {h : PH} {g : PG} {q} (hx : qL f pc ls st h g = some (.inr q)) : False := by
  unfold qL at hx
  repeat' (split at hx)
  all_goals (first | exact (r_nx hx).elim | cases hx)
theorem r_uI {f : Int → Int} {pc : Nat} {ls : PL} {st : List PV} {h : PH} {g : PG} {q} (hx : uI f pc ls st h g = some (.inr q)) : False := by
  unfold uI at hx
  repeat' (split at hx)
  all_goals (first | exact (r_nx hx).elim | cases hx)
theorem r_jmp {pc : Nat} {off : Int} {ls : PL} {st : List PV} {h : PH} {g : PG} {q} (hx : jmp pc off ls st h g = some (.inr q)) : False := by
  unfold jmp at hx
  repeat' (split at hx)
  all_goals (first | exact (r_nx hx).elim | cases hx)
theorem r_jc {c : ClassFile.Cond} {x y : Int} {pc : Nat} {off : Int} {ls : PL} {st : List PV} {h : PH} {g : PG} {q} (hx : jc c x y pc off ls st h g = some (.inr q)) : False := by
  unfold jc at hx
  repeat' (split at hx)
  all_goals (first | exact (r_nx hx).elim | cases hx | exact (r_jmp hx).elim)
theorem r_ldv {i len pc : Nat} {k : Nat} {ls : PL} {st : List PV} {h : PH} {g : PG} {q} (hx : ldv i len pc k ls st h g = some (.inr q)) : False := by
  unfold ldv at hx
  repeat' (split at hx)
  all_goals (first | exact (r_nx hx).elim | cases hx)
theorem r_st1 {i len pc : Nat} {v : PV} {ls : PL} {st : List PV} {h : PH} {g : PG} {q} (hx : st1 i len pc v ls st h g = some (.inr q)) : False := by
  unfold st1 at hx
  repeat' (split at hx)
  all_goals (first | exact (r_nx hx).elim | cases hx)
theorem r_st2 {i len pc : Nat} {v : PV} {ls : PL} {st : List PV} {h : PH} {g : PG} {q} (hx : st2 i len pc v ls st h g = some (.inr q)) : False := by
  unfold st2 at hx
  repeat' (split at hx)
  all_goals (first | exact (r_nx hx).elim | cases hx)
theorem r_stv {i len pc : Nat} {k : Nat} {ls : PL} {st : List PV} {h : PH} {g : PG} {q} (hx : stv i len pc k ls st h g = some (.inr q)) : False := by
  unfold stv at hx
  repeat' (split at hx)
  all_goals (first | exact (r_nx hx).elim | cases hx | exact (r_st1 hx).elim | exact (r_st2 hx).elim)
theorem r_aldI {z : Int → Int} {k : Nat} {pc : Nat} {ls : PL} {st : List PV} {h : PH} {g : PG} {q} (hx : aldI z k pc ls st h g = some (.inr q)) : False := by
  unfold aldI at hx
  repeat' (split at hx)
  all_goals (first | exact (r_nx hx).elim | cases hx)
theorem r_aldL {pc : Nat} {ls : PL} {st : List PV} {h : PH} {g : PG} {q} (hx : aldL pc ls st h g = some (.inr q)) : False := by
  unfold aldL at hx
  repeat' (split at hx)
  all_goals (first | exact (r_nx hx).elim | cases hx)
theorem r_aldR {pc : Nat} {ls : PL} {st : List PV} {h : PH} {g : PG} {q} (hx : aldR pc ls st h g = some (.inr q)) : False := by
  unfold aldR at hx
  repeat' (split at hx)
  all_goals (first | exact (r_nx hx).elim | cases hx)
theorem r_astI {k : Nat} {ok : Int → Bool} {pc : Nat} {ls : PL} {st : List PV} {h : PH} {g : PG} {q} (hx : astI k ok pc ls st h g = some (.inr q)) : False := by
  unfold astI at hx
  repeat' (split at hx)
  all_goals (first | exact (r_nx hx).elim | cases hx)
theorem r_astL {pc : Nat} {ls : PL} {st : List PV} {h : PH} {g : PG} {q} (hx : astL pc ls st h g = some (.inr q)) : False := by
  unfold astL at hx
  repeat' (split at hx)
  all_goals (first | exact (r_nx hx).elim | cases hx)
theorem r_astR {pc : Nat} {ls : PL} {st : List PV} {h : PH} {g : PG} {q} (hx : astR pc ls st h g = some (.inr q)) : False := by
  unfold astR at hx
  repeat' (split at hx)
  all_goals (first | exact (r_nx hx).elim | cases hx)
theorem r_alenI {z : Int → Int} {pc : Nat} {ls : PL} {st : List PV} {h : PH} {g : PG} {q} (hx : alenI z pc ls st h g = some (.inr q)) : False := by
  unfold alenI at hx
  repeat' (split at hx)
  all_goals (first | exact (r_nx hx).elim | cases hx)
theorem r_getF {o i pc : Nat} {ls : PL} {st : List PV} {h : PH} {g : PG} {q} (hx : getF o i pc ls st h g = some (.inr q)) : False := by
  unfold getF at hx
  repeat' (split at hx)
  all_goals (first | exact (r_nx hx).elim | cases hx)
theorem r_putF {ini : Bool} {o i pc : Nat} {ls : PL} {st : List PV} {h : PH} {g : PG} {q} (hx : putF ini o i pc ls st h g = some (.inr q)) : False := by
  unfold putF at hx
  repeat' (split at hx)
  all_goals (first | exact (r_nx hx).elim | cases hx)
theorem r_getS {o i pc : Nat} {ls : PL} {st : List PV} {h : PH} {g : PG} {q} (hx : getS o i pc ls st h g = some (.inr q)) : False := by
  unfold getS at hx
  repeat' (split at hx)
  all_goals (first | exact (r_nx hx).elim | cases hx)
theorem r_newO {o i pc : Nat} {ls : PL} {st : List PV} {h : PH} {g : PG} {q} (hx : newO o i pc ls st h g = some (.inr q)) : False := by
  unfold newO at hx
  repeat' (split at hx)
  all_goals (first | exact (r_nx hx).elim | cases hx)
theorem r_newA {k len pc : Nat} {ls : PL} {st : List PV} {h : PH} {g : PG} {q} (hx : newA k len pc ls st h g = some (.inr q)) : False := by
  unfold newA at hx
  repeat' (split at hx)
  all_goals (first | exact (r_nx hx).elim | cases hx)
theorem r_newM {pc : Nat} {ls : PL} {st : List PV} {h : PH} {g : PG} {q} (hx : newM pc ls st h g = some (.inr q)) : False := by
  unfold newM at hx
  repeat' (split at hx)
  all_goals (first | exact (r_nx hx).elim | cases hx)
theorem r_doBlt {mm o i pc : Nat} {ls : PL} {st : List PV} {h : PH} {g : PG} {q} (hx : doBlt mm o i pc ls st h g = some (.inr q)) : False := by
  unfold doBlt at hx
  repeat' (split at hx)
  all_goals (first | exact (r_nx hx).elim | cases hx)
theorem r_tsw {d lo hi : Int} {os : Array Int} {pc : Nat} {ls : PL} {st : List PV} {h : PH} {g : PG} {q} (hx : tsw d lo hi os pc ls st h g = some (.inr q)) : False := by
  unfold tsw at hx
  repeat' (split at hx)
  all_goals (first | exact (r_nx hx).elim | cases hx | exact (r_jmp hx).elim)
theorem r_lsw {d : Int} {ps : Array (Int × Int)} {pc : Nat} {ls : PL} {st : List PV} {h : PH} {g : PG} {q} (hx : lsw d ps pc ls st h g = some (.inr q)) : False := by
  unfold lsw at hx
  repeat' (split at hx)
  all_goals (first | exact (r_nx hx).elim | cases hx | exact (r_jmp hx).elim)
theorem r_iinc {i : Nat} {c : Int} {pc : Nat} {ls : PL} {st : List PV} {h : PH} {g : PG} {q} (hx : iinc i c pc ls st h g = some (.inr q)) : False := by
  unfold iinc at hx
  repeat' (split at hx)
  all_goals (first | exact (r_nx hx).elim | cases hx | exact (r_st1 hx).elim)
theorem r_dup2 {pc : Nat} {ls : PL} {st : List PV} {h : PH} {g : PG} {q} (hx : dup2 pc ls st h g = some (.inr q)) : False := by
  unfold dup2 at hx
  repeat' (split at hx)
  all_goals (first | exact (r_nx hx).elim | cases hx)
theorem r_pop1 {pc : Nat} {ls : PL} {st : List PV} {h : PH} {g : PG} {q} (hx : pop1 pc ls st h g = some (.inr q)) : False := by
  unfold pop1 at hx
  repeat' (split at hx)
  all_goals (first | exact (r_nx hx).elim | cases hx)
theorem r_pop22 {pc : Nat} {ls : PL} {st : List PV} {h : PH} {g : PG} {q} (hx : pop22 pc ls st h g = some (.inr q)) : False := by
  unfold pop22 at hx
  repeat' (split at hx)
  all_goals (first | exact (r_nx hx).elim | cases hx)
theorem r_dup1 {pc : Nat} {ls : PL} {st : List PV} {h : PH} {g : PG} {q} (hx : dup1 pc ls st h g = some (.inr q)) : False := by
  unfold dup1 at hx
  repeat' (split at hx)
  all_goals (first | exact (r_nx hx).elim | cases hx)
theorem r_dupx {pc : Nat} {ls : PL} {st : List PV} {h : PH} {g : PG} {q} (hx : dupx pc ls st h g = some (.inr q)) : False := by
  unfold dupx at hx
  repeat' (split at hx)
  all_goals (first | exact (r_nx hx).elim | cases hx)
theorem r_i2lI {pc : Nat} {ls : PL} {st : List PV} {h : PH} {g : PG} {q} (hx : i2lI pc ls st h g = some (.inr q)) : False := by
  unfold i2lI at hx
  repeat' (split at hx)
  all_goals (first | exact (r_nx hx).elim | cases hx)
theorem r_l2iI {pc : Nat} {ls : PL} {st : List PV} {h : PH} {g : PG} {q} (hx : l2iI pc ls st h g = some (.inr q)) : False := by
  unfold l2iI at hx
  repeat' (split at hx)
  all_goals (first | exact (r_nx hx).elim | cases hx)
theorem r_negL {pc : Nat} {ls : PL} {st : List PV} {h : PH} {g : PG} {q} (hx : negL pc ls st h g = some (.inr q)) : False := by
  unfold negL at hx
  repeat' (split at hx)
  all_goals (first | exact (r_nx hx).elim | cases hx)
theorem r_lcmpI {pc : Nat} {ls : PL} {st : List PV} {h : PH} {g : PG} {q} (hx : lcmpI pc ls st h g = some (.inr q)) : False := by
  unfold lcmpI at hx
  repeat' (split at hx)
  all_goals (first | exact (r_nx hx).elim | cases hx)
section FRI
variable {base : Nat} {ad : Int → Nat} {z : Int → Int} {cA : Nat → ClassId} {D : va_G} {n0 mi : Nat} {p : Program} {l : Launch} {e : Env} {R : Room} {s : State} {m : MethodId} {args : Array Value} {below : List Frame} {meth : Method} {c : Code} {Q : State → Prop}
variable {pc : Nat} {ls : PL} {st : List PV} {h : PH} {g : PG} {k : Cfg}
theorem q_doCall {ks : List Nat} {mm o i pc : Nat} {ls : PL} {st : List PV} {h : PH} {g : PG} {k : Cfg} (hx : doCall ks mm o i pc ls st h g = some (.inl k)) : False := by
  unfold doCall at hx
  repeat' (split at hx)
  all_goals (cases hx)
theorem q_retI {m : Nat} {st : List PV} {h : PH} {g : PG} {k : Cfg} (hx : retI m st h g = some (.inl k)) : False := by
  unfold retI at hx
  repeat' (split at hx)
  all_goals (cases hx)
theorem q_retL {m : Nat} {st : List PV} {h : PH} {g : PG} {k : Cfg} (hx : retL m st h g = some (.inl k)) : False := by
  unfold retL at hx
  repeat' (split at hx)
  all_goals (cases hx)
theorem q_retV {m : Nat} {st : List PV} {h : PH} {g : PG} {k : Cfg} (hx : retV m st h g = some (.inl k)) : False := by
  unfold retV at hx
  repeat' (split at hx)
  all_goals (cases hx)

set_option maxHeartbeats 4000000 in
theorem xi_next (hz : 0 ≤ z (-1)) {i : Instr} {len : Nat} (hd : decode (mC mi) pc = .ok (i, len)) (hx : xi z mi i len pc ls st h g = some (.inl k)) : g.1 ≤ k.2.2.2.2.1 ∧ (g.1 ≤ nCell → k.2.2.2.2.1 ≤ nCell) ∧ ∀ (_ : FO base ad z cA D p s m args meth c mi) (_ : RoomOK R mi n0 k.2.2.2.2.1) (_ : n0 ≤ g.1) (_ : WG base ad cA D n0 mi p l e R s m args below meth c Q k), WG base ad cA D n0 mi p l e R s m args below meth c Q (pc, ls, st, h, g) := by
  cases i
  case iadd => obtain ⟨rfl, h9⟩ := if_len hx; exact n_iadd hd h9
  case isub => obtain ⟨rfl, h9⟩ := if_len hx; exact n_isub hd h9
  case imul => obtain ⟨rfl, h9⟩ := if_len hx; exact n_imul hd h9
  case iand => obtain ⟨rfl, h9⟩ := if_len hx; exact n_iand hd h9
  case ior => obtain ⟨rfl, h9⟩ := if_len hx; exact n_ior hd h9
  case ixor => obtain ⟨rfl, h9⟩ := if_len hx; exact n_ixor hd h9
  case ishl => obtain ⟨rfl, h9⟩ := if_len hx; exact n_ishl hd h9
  case ishr => obtain ⟨rfl, h9⟩ := if_len hx; exact n_ishr hd h9
  case iushr => obtain ⟨rfl, h9⟩ := if_len hx; exact n_iushr hd h9
  case idiv => obtain ⟨rfl, h9⟩ := if_len hx; exact n_idiv hd h9
  case irem => obtain ⟨rfl, h9⟩ := if_len hx; exact n_irem hd h9
  case ineg => obtain ⟨rfl, h9⟩ := if_len hx; exact n_ineg hd h9
  case i2b => obtain ⟨rfl, h9⟩ := if_len hx; exact n_i2b hd h9
  case i2c => obtain ⟨rfl, h9⟩ := if_len hx; exact n_i2c hd h9
  case i2l => obtain ⟨rfl, h9⟩ := if_len hx; exact n_i2l hd h9
  case l2i => obtain ⟨rfl, h9⟩ := if_len hx; exact n_l2i hd h9
  case ladd => obtain ⟨rfl, h9⟩ := if_len hx; exact n_ladd hd h9
  case lsub => obtain ⟨rfl, h9⟩ := if_len hx; exact n_lsub hd h9
  case lmul => obtain ⟨rfl, h9⟩ := if_len hx; exact n_lmul hd h9
  case ldiv => obtain ⟨rfl, h9⟩ := if_len hx; exact n_ldiv hd h9
  case lrem => obtain ⟨rfl, h9⟩ := if_len hx; exact n_lrem hd h9
  case lneg => obtain ⟨rfl, h9⟩ := if_len hx; exact n_lneg hd h9
  case lcmp => obtain ⟨rfl, h9⟩ := if_len hx; exact n_lcmp hd h9
  case pop => obtain ⟨rfl, h9⟩ := if_len hx; exact n_pop hd h9
  case pop2 => obtain ⟨rfl, h9⟩ := if_len hx; exact n_pop2 hd h9
  case dup => obtain ⟨rfl, h9⟩ := if_len hx; exact n_dup hd h9
  case dup2 => obtain ⟨rfl, h9⟩ := if_len hx; exact n_dup2 hd h9
  case dup_x1 => obtain ⟨rfl, h9⟩ := if_len hx; exact n_dup_x1 hd h9
  case iaload => obtain ⟨rfl, h9⟩ := if_len hx; exact n_iaload hd h9
  case baload => obtain ⟨rfl, h9⟩ := if_len hx; exact n_baload hd h9
  case caload => obtain ⟨rfl, h9⟩ := if_len hx; exact n_caload hd h9
  case laload => obtain ⟨rfl, h9⟩ := if_len hx; exact n_laload hd h9
  case aaload => obtain ⟨rfl, h9⟩ := if_len hx; exact n_aaload hd h9
  case iastore => obtain ⟨rfl, h9⟩ := if_len hx; exact n_iastore hd h9
  case castore => obtain ⟨rfl, h9⟩ := if_len hx; exact n_castore hd h9
  case lastore => obtain ⟨rfl, h9⟩ := if_len hx; exact n_lastore hd h9
  case aastore => obtain ⟨rfl, h9⟩ := if_len hx; exact n_aastore hd h9
  case iload_n j => obtain ⟨rfl, h9⟩ := if_len hx; exact n_iload_n hd h9
  case iload j => obtain ⟨rfl, h9⟩ := if_len hx; exact n_iload hd h9
  case lload_n j => obtain ⟨rfl, h9⟩ := if_len hx; exact n_lload_n hd h9
  case lload j => obtain ⟨rfl, h9⟩ := if_len hx; exact n_lload hd h9
  case aload_n j => obtain ⟨rfl, h9⟩ := if_len hx; exact n_aload_n hd h9
  case aload j => obtain ⟨rfl, h9⟩ := if_len hx; exact n_aload hd h9
  case istore_n j => obtain ⟨rfl, h9⟩ := if_len hx; exact n_istore_n hd h9
  case istore j => obtain ⟨rfl, h9⟩ := if_len hx; exact n_istore hd h9
  case lstore_n j => obtain ⟨rfl, h9⟩ := if_len hx; exact n_lstore_n hd h9
  case lstore j => obtain ⟨rfl, h9⟩ := if_len hx; exact n_lstore hd h9
  case astore_n j => obtain ⟨rfl, h9⟩ := if_len hx; exact n_astore_n hd h9
  case astore j => obtain ⟨rfl, h9⟩ := if_len hx; exact n_astore hd h9
  case goto off => obtain ⟨rfl, h9⟩ := if_len hx; exact n_goto hd h9
  case getfield j => obtain ⟨rfl, h9⟩ := if_len hx; exact n_getfield hd h9
  case putfield j => obtain ⟨rfl, h9⟩ := if_len hx; exact n_putfield hd h9
  case getstatic j => obtain ⟨rfl, h9⟩ := if_len hx; exact n_getstatic hd h9
  case ldc j => obtain ⟨rfl, h9⟩ := if_len hx; exact n_ldc hd h9
  case new j => obtain ⟨rfl, h9⟩ := if_len hx; exact n_new hd h9
  case iconst j => obtain ⟨rfl, h9⟩ := if_len hx; exact n_iconst hd h9
  case lconst j => obtain ⟨rfl, h9⟩ := if_len hx; exact n_lconst hd h9
  case ldc_w j => obtain ⟨rfl, h9⟩ := if_len hx; exact n_ldcw hd h9
  case ldc2_w j => obtain ⟨rfl, h9⟩ := if_len hx; exact n_ldc2 hd h9
  case arraylength => obtain ⟨rfl, h9⟩ := if_len hx; exact n_alen hz hd h9
  case iinc j q => obtain ⟨rfl, h9⟩ := if_len hx; exact n_iinc hd h9
  case if_icmp q off => obtain ⟨rfl, h9⟩ := if_len hx; exact n_icmp hd h9
  case ifCond q off => obtain ⟨rfl, h9⟩ := if_len hx; exact n_ifc hd h9
  case tableswitch d lo hi os => exact n_tsw hd hx
  case lookupswitch d ps => exact n_lsw hd hx
  case bipush j =>
    simp only [xi] at hx
    split at hx
    · rename_i h1
      obtain ⟨rfl, h2, h3⟩ := h1
      exact n_bipush ⟨h2, h3⟩ hd hx
    · cases hx
  case sipush j =>
    simp only [xi] at hx
    split at hx
    · rename_i h1
      obtain ⟨rfl, h2, h3⟩ := h1
      exact n_sipush ⟨h2, h3⟩ hd hx
    · cases hx
  case newarray t =>
    obtain ⟨rfl, h9⟩ := if_len hx
    cases t
    case int => exact n_newarrI hd h9
    case long => exact n_newarrJ hd h9
    case char => exact n_newarrC hd h9
    all_goals cases h9
  case anewarray j => obtain ⟨rfl, h9⟩ := if_len hx; exact n_anew hd h9
  case multianewarray j d =>
    simp only [xi] at hx
    split at hx
    · rename_i h1
      obtain ⟨rfl, rfl, h3⟩ := h1
      exact n_multi h3 hd hx
    · cases hx
  case invokevirtual j => obtain ⟨rfl, h9⟩ := if_len hx; exact (q_doCall h9).elim
  case invokestatic j =>
    obtain ⟨rfl, h9⟩ := if_len hx
    split at h9
    · exact (q_doCall h9).elim
    · rename_i h1
      split at h9
      · cases h9
      · rename_i h2
        exact n_bltS h1 h2 hd h9
  case invokespecial j =>
    obtain ⟨rfl, h9⟩ := if_len hx
    split at h9
    · exact (q_doCall h9).elim
    · split at h9
      · rename_i h2
        exact n_bltI h2 hd h9
      · cases h9
  case ireturn => obtain ⟨rfl, h9⟩ := if_len hx; exact (q_retI h9).elim
  case lreturn => obtain ⟨rfl, h9⟩ := if_len hx; exact (q_retL h9).elim
  case return_ => obtain ⟨rfl, h9⟩ := if_len hx; exact (q_retV h9).elim
  all_goals cases hx

set_option maxHeartbeats 4000000 in
theorem xi_inr {i : Instr} {len : Nat} {q : (Nat × List PV × Cfg) ⊕ Out} (hx : xi z mi i len pc ls st h g = some (.inr q)) :
    (∃ j, i = .invokevirtual j ∧ len = 3 ∧ doCall [0] mi (mO mi) j pc ls st h g = some (.inr q)) ∨ (∃ j, i = .invokestatic j ∧ len = 3 ∧ doCall [1] mi (mO mi) j pc ls st h g = some (.inr q)) ∨ (∃ j, i = .invokespecial j ∧ len = 3 ∧ doCall [2] mi (mO mi) j pc ls st h g = some (.inr q)) ∨
    (i = .ireturn ∧ len = 1 ∧ retI mi st h g = some (.inr q)) ∨ (i = .lreturn ∧ len = 1 ∧ retL mi st h g = some (.inr q)) ∨ (i = .return_ ∧ len = 1 ∧ retV mi st h g = some (.inr q)) := by
  cases i
  case iadd => exact (r_bI (if_len hx).2).elim
  case isub => exact (r_bI (if_len hx).2).elim
  case imul => exact (r_bI (if_len hx).2).elim
  case iand => exact (r_bI (if_len hx).2).elim
  case ior => exact (r_bI (if_len hx).2).elim
  case ixor => exact (r_bI (if_len hx).2).elim
  case ishl => exact (r_bI (if_len hx).2).elim
  case ishr => exact (r_bI (if_len hx).2).elim
  case iushr => exact (r_bI (if_len hx).2).elim
  case idiv => exact (r_qI (if_len hx).2).elim
  case irem => exact (r_qI (if_len hx).2).elim
  case ineg => exact (r_uI (if_len hx).2).elim
  case i2b => exact (r_uI (if_len hx).2).elim
  case i2c => exact (r_uI (if_len hx).2).elim
  case i2l => exact (r_i2lI (if_len hx).2).elim
  case l2i => exact (r_l2iI (if_len hx).2).elim
  case ladd => exact (r_bL (if_len hx).2).elim
  case lsub => exact (r_bL (if_len hx).2).elim
  case lmul => exact (r_bL (if_len hx).2).elim
  case ldiv => exact (r_qL (if_len hx).2).elim
  case lrem => exact (r_qL (if_len hx).2).elim
  case lneg => exact (r_negL (if_len hx).2).elim
  case lcmp => exact (r_lcmpI (if_len hx).2).elim
  case pop => exact (r_pop1 (if_len hx).2).elim
  case pop2 => exact (r_pop22 (if_len hx).2).elim
  case dup => exact (r_dup1 (if_len hx).2).elim
  case dup2 => exact (r_dup2 (if_len hx).2).elim
  case dup_x1 => exact (r_dupx (if_len hx).2).elim
  case iaload => exact (r_aldI (if_len hx).2).elim
  case baload => exact (r_aldI (if_len hx).2).elim
  case caload => exact (r_aldI (if_len hx).2).elim
  case laload => exact (r_aldL (if_len hx).2).elim
  case aaload => exact (r_aldR (if_len hx).2).elim
  case iastore => exact (r_astI (if_len hx).2).elim
  case castore => exact (r_astI (if_len hx).2).elim
  case lastore => exact (r_astL (if_len hx).2).elim
  case aastore => exact (r_astR (if_len hx).2).elim
  case arraylength => exact (r_alenI (if_len hx).2).elim
  case iload_n j => exact (r_ldv (if_len hx).2).elim
  case iload j => exact (r_ldv (if_len hx).2).elim
  case lload_n j => exact (r_ldv (if_len hx).2).elim
  case lload j => exact (r_ldv (if_len hx).2).elim
  case aload_n j => exact (r_ldv (if_len hx).2).elim
  case aload j => exact (r_ldv (if_len hx).2).elim
  case istore_n j => exact (r_stv (if_len hx).2).elim
  case istore j => exact (r_stv (if_len hx).2).elim
  case lstore_n j => exact (r_stv (if_len hx).2).elim
  case lstore j => exact (r_stv (if_len hx).2).elim
  case astore_n j => exact (r_stv (if_len hx).2).elim
  case astore j => exact (r_stv (if_len hx).2).elim
  case goto off => exact (r_jmp (if_len hx).2).elim
  case getfield j => exact (r_getF (if_len hx).2).elim
  case putfield j => exact (r_putF (if_len hx).2).elim
  case getstatic j => exact (r_getS (if_len hx).2).elim
  case new j => exact (r_newO (if_len hx).2).elim
  case iconst j => exact (r_nx (if_len hx).2).elim
  case lconst j => exact (r_nx (if_len hx).2).elim
  case iinc j q => exact (r_iinc (if_len hx).2).elim
  case if_icmp q off =>
    have h9 := (if_len hx).2
    split at h9
    · exact (r_jc h9).elim
    · cases h9
  case ifCond q off =>
    have h9 := (if_len hx).2
    split at h9
    · exact (r_jc h9).elim
    · cases h9
  case tableswitch d lo hi os => exact (r_tsw hx).elim
  case lookupswitch d ps => exact (r_lsw hx).elim
  case ldc j =>
    have h9 := (if_len hx).2
    split at h9
    · exact (r_nx h9).elim
    · split at h9
      · exact (r_nx h9).elim
      · cases h9
  case ldc_w j =>
    have h9 := (if_len hx).2
    split at h9
    · exact (r_nx h9).elim
    · cases h9
  case ldc2_w j =>
    have h9 := (if_len hx).2
    split at h9
    · exact (r_nx h9).elim
    · cases h9
  case bipush j =>
    simp only [xi] at hx
    split at hx
    · exact (r_nx hx).elim
    · cases hx
  case sipush j =>
    simp only [xi] at hx
    split at hx
    · exact (r_nx hx).elim
    · cases hx
  case newarray t =>
    have h9 := (if_len hx).2
    cases t
    case int => exact (r_newA h9).elim
    case long => exact (r_newA h9).elim
    case char => exact (r_newA h9).elim
    all_goals cases h9
  case anewarray j =>
    have h9 := (if_len hx).2
    split at h9
    · exact (r_newA h9).elim
    · cases h9
  case multianewarray j d =>
    simp only [xi] at hx
    split at hx
    · exact (r_newM hx).elim
    · cases hx
  case invokevirtual j => obtain ⟨rfl, h9⟩ := if_len hx; exact Or.inl ⟨j, rfl, rfl, h9⟩
  case invokestatic j =>
    obtain ⟨rfl, h9⟩ := if_len hx
    split at h9
    · exact Or.inr (Or.inl ⟨j, rfl, rfl, h9⟩)
    · split at h9
      · cases h9
      · exact (r_doBlt h9).elim
  case invokespecial j =>
    obtain ⟨rfl, h9⟩ := if_len hx
    split at h9
    · exact Or.inr (Or.inr (Or.inl ⟨j, rfl, rfl, h9⟩))
    · split at h9
      · exact (r_doBlt h9).elim
      · cases h9
  case ireturn => obtain ⟨rfl, h9⟩ := if_len hx; exact Or.inr (Or.inr (Or.inr (Or.inl ⟨rfl, rfl, h9⟩)))
  case lreturn => obtain ⟨rfl, h9⟩ := if_len hx; exact Or.inr (Or.inr (Or.inr (Or.inr (Or.inl ⟨rfl, rfl, h9⟩))))
  case return_ => obtain ⟨rfl, h9⟩ := if_len hx; exact Or.inr (Or.inr (Or.inr (Or.inr (Or.inr ⟨rfl, rfl, h9⟩))))
  all_goals cases hx

end FRI
end
section
/-! ===== THE PLAIN MACHINE'S RUN IS THE MACHINE'S RUN: every method at once ===== -/
theorem ent_len : ∀ (ad : Int → Nat) (av : List PV), (lg_sl (av.map (mv ad))).length = (slotsOf av).length
  | _, [] => rfl
  | ad, v :: av => by
    have ih := ent_len ad av
    have e : lg_sl ((v :: av).map (mv ad)) = (if pcat v = 2 then [.val (mv ad v), .second] else [.val (mv ad v)]) ++ lg_sl (av.map (mv ad)) := by
      unfold lg_sl
      rw [List.map_cons, List.flatMap_cons, mv_cat]
    rw [e, List.length_append, ih]
    by_cases h : pcat v = 2
    · rw [if_pos h, show slotsOf (v :: av) = some v :: none :: slotsOf av from if_pos h]
      simp only [List.length_cons, List.length_nil]
      omega
    · rw [if_neg h, show slotsOf (v :: av) = some v :: slotsOf av from if_neg h]
      simp only [List.length_cons, List.length_nil]
      omega
theorem ent_at : ∀ (ad : Int → Nat) (av : List PV) (i : Nat) (v : PV), (slotsOf av)[i]? = some (some v) → (lg_sl (av.map (mv ad)))[i]? = some (.val (mv ad v))
  | _, [], i, v, h => by simp [slotsOf] at h
  | ad, w :: av, i, v, h => by
    have ih := ent_at ad av
    have e : lg_sl ((w :: av).map (mv ad)) = (if pcat w = 2 then [.val (mv ad w), .second] else [.val (mv ad w)]) ++ lg_sl (av.map (mv ad)) := by
      unfold lg_sl
      rw [List.map_cons, List.flatMap_cons, mv_cat]
    rw [e]
    unfold slotsOf at h
    by_cases h2 : pcat w = 2
    · rw [if_pos h2] at h ⊢
      match i, h with
      | 0, h => cases h; rfl
      | 1, h => cases h
      | i + 2, h => exact ih i v h
    · rw [if_neg h2] at h ⊢
      match i, h with
      | 0, h => cases h; rfl
      | i + 1, h => exact ih i v h
theorem ent_LR {ad : Int → Nat} {m : Nat} {av : List PV} {l0 : PL} (h : entryL m av = some l0) : LR ad (mL m) ((lg_sl (av.map (mv ad)) ++ List.replicate (mL m - (lg_sl (av.map (mv ad))).length) Slot.unset).toArray) l0 := by
  unfold entryL at h
  split at h
  · rename_i hl
    obtain rfl := Option.some.inj h
    have hl2 : (lg_sl (av.map (mv ad))).length ≤ mL m := by rw [ent_len]; exact hl
    have he := lv_entry (av.map (mv ad)) hl2
    refine ⟨he.1, by rw [List.length_append, List.length_replicate]; omega, he.2.1, fun i v hv => ?_⟩
    by_cases hi : i < (slotsOf av).length
    · rw [List.getElem?_append_left hi] at hv
      have h9 := ent_at ad av i v hv
      show (List.toArray _)[i]? = _
      rw [List.getElem?_toArray, List.getElem?_append_left (by rw [ent_len]; exact hi)]
      exact h9
    · rw [List.getElem?_append_right (by omega)] at hv
      obtain ⟨h8, h9⟩ := List.getElem?_eq_some_iff.mp hv
      rw [List.getElem_replicate] at h9
      cases h9
  · cases h
theorem doCall_spec {ks : List Nat} {mm o i pc : Nat} {ls : PL} {st : List PV} {h : PH} {g : PG} {q : (Nat × List PV × Cfg) ⊕ Out} (hx : doCall ks mm o i pc ls st h g = some (.inr q)) :
    ∃ m' b av rest, mthT o i = some (m', b) ∧ m' < nMeth ∧ mF m' + 1 ≤ mF mm ∧ 8 + (mL m' + 11) + mW m' ≤ mW mm ∧ mK m' ∈ ks ∧ pcats rest ≤ 8 ∧ q = .inl (m', av, (pc + 3, ls, rest, h, g)) ∧
      ((mK m' = 1 ∧ av.length = mN m' ∧ st = av.reverse ++ rest) ∨ ∃ a r, av = .inr (.inr a) :: r ∧ r.length + 1 = mN m' ∧ st = r.reverse ++ .inr (.inr a) :: rest ∧ (mK m' = 0 → isRecv a m' g.1 = true)) := by
  unfold doCall at hx
  split at hx
  · rename_i m' b hm
    split at hx
    · rename_i h1
      obtain ⟨h1, h2, h3, h4, h5, h6⟩ := h1
      have hlen : (st.take (mN m')).length = mN m' := by rw [List.length_take]; omega
      split at hx
      · rename_i a r hr
        split at hx
        · cases hx
        · rename_i hn
          cases hx
          have e1 : st.take (mN m') = (.inr (.inr a) :: r).reverse := by rw [← hr, List.reverse_reverse]
          have e2 : (.inr (.inr a) :: r : List PV).length = mN m' := by rw [← hr, List.length_reverse]; exact hlen
          refine ⟨m', b, _, _, hm, h1, h2, h3, h4, h6, rfl, Or.inr ⟨a, r, rfl, by simpa using e2, ?_, fun h0 => ?_⟩⟩
          · have e3 := List.take_append_drop (mN m') st
            rw [e1, List.reverse_cons, List.append_assoc] at e3
            exact e3.symm
          · cases hb : isRecv a m' g.1 with
            | true => rfl
            | false => exact absurd ⟨h0, hb⟩ hn
      · rename_i hr
        split at hx
        · rename_i hk
          cases hx
          refine ⟨m', b, _, _, hm, h1, h2, h3, h4, h6, rfl, Or.inl ⟨hk, by rw [List.length_reverse]; exact hlen, ?_⟩⟩
          rw [List.reverse_reverse]
          exact (List.take_append_drop (mN m') st).symm
        · cases hx
    · cases hx
  · cases hx
theorem nar_b {v : Int} (h : -128 ≤ v ∧ v ≤ 127) : narrow .byte (.int (Int32.ofInt v)) = .int (Int32.ofInt v) := by
  show Value.int (Int32.ofInt v).toInt8.toInt32 = _
  refine congrArg Value.int (Int32.toInt_inj.mp ?_)
  have e1 : (Int32.ofInt v).toInt = v := e_small (by omega) (by omega)
  have e2 : (Int32.ofInt v).toInt8 = Int8.ofInt v := by simp
  rw [e2, Int8.toInt32_ofInt (by rw [show Int8.minValue.toInt = -128 from by decide]; exact h.1) (by rw [show Int8.maxValue.toInt = 127 from by decide]; exact h.2)]
section MAIN
variable (base : Nat) (ad : Int → Nat) (z : Int → Int) (cA : Nat → ClassId) (D : va_G) (l : Launch)
def FRp (f : Nat) : Prop := ∀ (mi : Nat) (k : Cfg) (o : Out), ex z f mi k = some o →
  ∀ (n0 : Nat) (p : Program) (e : Env) (R : Room) (s : State) (m : MethodId) (args : Array Value) (below : List Frame) (meth : Method) (c : Code) (Q : State → Prop), k.2.2.2.2.1 ≤ o.2.2.1 ∧ (k.2.2.2.2.1 ≤ nCell → o.2.2.1 ≤ nCell) ∧ (FO base ad z cA D p s m args meth c mi → RoomOK R mi n0 o.2.2.1 → n0 ≤ k.2.2.2.2.1 → k.2.2.2.2.1 ≤ nCell →
    (∀ (pc : Nat) (ls : PL) (st : List PV) (h : PH) (g : PG), xs z mi (pc, ls, st, h, g) = some (.inr (.inr o)) → n0 ≤ g.1 → WG base ad cA D n0 mi p l e R s m args below meth c Q (pc, ls, st, h, g)) → WG base ad cA D n0 mi p l e R s m args below meth c Q k)
def MTp (f : Nat) : Prop := ∀ (m' : Nat) (av : List PV) (h : PH) (g : PG) (v : Option PV) (h' : PH) (g' : PG) (l0 : PL), m' < nMeth → entryL m' av = some l0 → ex z f m' (0, l0, [], h, g) = some (v, h', g') → g.1 ≤ nCell →
  Met l (mY m') (wsM m') (rmM m' (g'.1 - g.1) (sl g'.1 - sl g.1)) (PcM base ad z cA D av h g) (QcM base ad cA D v h' g') (g'.1 - g.1) (sl g'.1 - sl g.1) (ZA base)

variable {base ad z cA D l}
theorem ret_met {m' : Nat} (hm1 : m' < nMeth) {v : Option PV} {h' : PH} {g' : PG} {n0 : Nat} {p : Program} {e : Env} {R : Room} {s : State} {m : MethodId} {args : Array Value} {below : List Frame} {meth : Method} {c : Code}
    (F : FO base ad z cA D p s m args meth c m') {pc : Nat} {ls : PL} {st : List PV} {h : PH} {g : PG} (hx : xs z m' (pc, ls, st, h, g) = some (.inr (.inr (v, h', g')))) (hn : n0 ≤ g.1) :
    WG base ad cA D n0 m' p l e R s m args below meth c (MQ below (QcM base ad cA D v h' g') args s (g'.1 - n0) (sl g'.1 - sl n0) (ZA base)) (pc, ls, st, h, g) := by
  unfold xs at hx
  split at hx
  · rename_i i len hd
    intro H locs l9 hH hS hL
    have hq : ∀ (w : Option PV), v = w → h' = h → g' = g → ∀ t : State, t.heap = H → s.WarmedH t.vm → QcM base ad cA D v h' g' args s (.returned (w.map (mv ad))) t := by
      intro w e1 e2 e3 t ht _
      subst e1; subst e2; subst e3
      exact ⟨rfl, by rw [ht]; exact hH, hS.F ht⟩
    rcases xi_inr hx with ⟨j, -, -, h9⟩ | ⟨j, -, -, h9⟩ | ⟨j, -, -, h9⟩ | ⟨rfl, rfl, h9⟩ | ⟨rfl, rfl, h9⟩ | ⟨rfl, rfl, h9⟩
    · obtain ⟨_, _, _, _, _, _, _, _, _, _, hq9, _⟩ := doCall_spec h9
      cases hq9
    · obtain ⟨_, _, _, _, _, _, _, _, _, _, hq9, _⟩ := doCall_spec h9
      cases hq9
    · obtain ⟨_, _, _, _, _, _, _, _, _, _, hq9, _⟩ := doCall_spec h9
      cases hq9
    · replace h9 : retI m' st h g = some (.inr (.inr (v, h', g'))) := h9
      unfold retI at h9
      split at h9
      · rename_i x
        split at h9
        · rename_i hr
          cases h9
          exact W.iret F.1 F.2.1 (F.2.2.2.2.2.2.2.1.trans hr) (hq (some (.inl x)) rfl rfl rfl) hS.2.2 hd F.2.2.2.2.2.2.1
        · rename_i hr
          split at h9
          · rename_i hb
            cases h9
            refine W.zret F.1 F.2.1 (F.2.2.2.2.2.2.2.1.trans hr) ?_ (hq (some (.inl x)) rfl rfl rfl) hS.2.2 hd F.2.2.2.2.2.2.1
            rcases hb with rfl | rfl
            · rfl
            · rfl
          · cases h9
        · rename_i hr
          split at h9
          · rename_i hb
            cases h9
            exact W.zret F.1 F.2.1 (F.2.2.2.2.2.2.2.1.trans hr) (nar_c hb) (hq (some (.inl x)) rfl rfl rfl) hS.2.2 hd F.2.2.2.2.2.2.1
          · cases h9
        · rename_i hr
          split at h9
          · rename_i hb
            cases h9
            exact W.zret F.1 F.2.1 (F.2.2.2.2.2.2.2.1.trans hr) (nar_b hb) (hq (some (.inl x)) rfl rfl rfl) hS.2.2 hd F.2.2.2.2.2.2.1
          · cases h9
        · cases h9
      · cases h9
    · replace h9 : retL m' st h g = some (.inr (.inr (v, h', g'))) := h9
      unfold retL at h9
      split at h9
      · rename_i x
        split at h9
        · rename_i hr
          cases h9
          exact W.lret F.1 F.2.1 (F.2.2.2.2.2.2.2.1.trans hr) (hq (some (.inr (.inl x))) rfl rfl rfl) hS.2.2 hd F.2.2.2.2.2.2.1
        · cases h9
      · cases h9
    · replace h9 : retV m' st h g = some (.inr (.inr (v, h', g'))) := h9
      unfold retV at h9
      split at h9
      · split at h9
        · rename_i hr
          cases h9
          exact W.vret F.1 F.2.1 (F.2.2.2.2.2.2.2.1.trans hr) (hq none rfl rfl rfl) hS.2.2 hd F.2.2.2.2.2.2.1
        · cases h9
      · cases h9
  · cases hx
theorem MT_of (had : AdOK base ad) {f : Nat} (hf : FRp base ad z cA D l f) : MTp base ad z cA D l f := by
  intro m' av h g v h' g' l0 hm1 hl hx hgn
  obtain ⟨d1, d2, d3, d4, d5, d6, d7⟩ := md_get hm1
  refine Met.ofW (cc := mC m') (maxL := mL m') (ret := mR m') d4 rfl ?_
  intro p e s m args below meth c s₁ B hml hP
  obtain ⟨rfl, hH, hKB, hbs⟩ := hP
  have hts := atoms_spec (ws := wsM m') B.pre
  have F : FO base ad z cA D p s m (av.map (mv ad)).toArray meth c m' := ⟨B.exec, B.bytes, hml, by rw [← d5]; exact findClass_of_methodNamed B.named, fun w hw => hts w (List.mem_cons_of_mem _ hw), hKB, B.notSynchronized, B.returns, fun hk => (name_of_methodNamed B.named B.method).1.trans (d6.mp hk), had, hbs⟩
  rw [lg_entry_eq]
  have k := (hf m' _ _ hx g.1 p e (rmM m' (g'.1 - g.1) (sl g'.1 - sl g.1)) s m (av.map (mv ad)).toArray below meth c (MQ below (QcM base ad cA D v h' g') (av.map (mv ad)).toArray s (g'.1 - g.1) (sl g'.1 - sl g.1) (ZA base))).2.2 F ⟨Nat.le_refl _, Nat.le_refl _, Nat.le_refl _, Nat.le_refl _⟩ (Nat.le_refl _) hgn (fun pc ls st h g hx hn => ret_met hm1 F hx hn) s.heap [] _ hH va_S.rf (ent_LR hl)
  have e1 : g.1 - g.1 = 0 := Nat.sub_self _
  have e2 : sl g.1 - sl g.1 = 0 := Nat.sub_self _
  have k2 : W p l e (rmM m' (g'.1 - g.1) (sl g'.1 - sl g.1)) s m (av.map (mv ad)).toArray below meth c s.heap [] (g.1 - g.1) (sl g.1 - sl g.1) (MQ below (QcM base ad cA D v h' g') (av.map (mv ad)).toArray s (g'.1 - g.1) (sl g'.1 - sl g.1) (ZA base)) (F0 m 0 ((lg_sl (av.map (mv ad)) ++ List.replicate (mL m' - (lg_sl (av.map (mv ad))).length) Slot.unset).toArray) []) := k
  rw [e1, e2] at k2
  exact k2
theorem FR_all (had : AdOK base ad) (hz : 0 ≤ z (-1)) : ∀ f, FRp base ad z cA D l f := by
  intro f
  induction f with
  | zero => intro mi k o hx; simp [ex] at hx
  | succ f ih =>
    intro mi k o hx n0 p e R s m args below meth c Q
    rw [ex] at hx
    cases he : xs z mi k with
    | none => rw [he] at hx; cases hx
    | some r =>
      rw [he] at hx
      rcases r with k' | ⟨m', av, k'⟩ | o'
      · obtain ⟨i1, i2, i3⟩ := ih mi k' o hx n0 p e R s m args below meth c Q
        obtain ⟨pc, ls, st, h, g⟩ := k
        unfold xs at he
        split at he
        · rename_i i len hd
          obtain ⟨j1, j2, j3⟩ := xi_next (base := base) (ad := ad) (cA := cA) (D := D) (n0 := n0) (p := p) (l := l) (e := e) (R := R) (s := s) (m := m) (args := args) (below := below) (meth := meth) (c := c) (Q := Q) hz hd he
          refine ⟨Nat.le_trans j1 i1, fun q => i2 (j2 q), fun F r9 n9 hgn hret => ?_⟩
          have hk' := j2 hgn
          have ho' := i2 hk'
          have hm := sl_mono i1 ho'
          exact j3 F ⟨r9.1, r9.2.1, by have := r9.2.2.1; omega, by have := r9.2.2.2; omega⟩ n9 (i3 F r9 (Nat.le_trans n9 j1) hk' hret)
        · cases he
      · simp only at hx
        cases hl : entryL m' av with
        | none => rw [hl] at hx; cases hx
        | some l0 =>
          rw [hl] at hx
          simp only at hx
          cases hc : ex z f m' (0, l0, [], k'.2.2.2.1, k'.2.2.2.2) with
          | none => rw [hc] at hx; cases hx
          | some q =>
            rw [hc] at hx
            obtain ⟨v, h', g'⟩ := q
            simp only at hx
            obtain ⟨i1, i2, i3⟩ := ih mi _ o hx n0 p e R s m args below meth c Q
            obtain ⟨c1, c2, -⟩ := ih m' _ _ hc n0 p e R s m args below meth c Q
            obtain ⟨pc, ls, st, h, g⟩ := k
            unfold xs at he
            split at he
            · rename_i i len hd
              have key : ∀ ks j, doCall ks mi (mO mi) j pc ls st h g = some (.inr (.inl (m', av, k'))) → ∃ b rest, mthT (mO mi) j = some (m', b) ∧ m' < nMeth ∧ mF m' + 1 ≤ mF mi ∧ 8 + (mL m' + 11) + mW m' ≤ mW mi ∧ mK m' ∈ ks ∧ pcats rest ≤ 8 ∧ k' = (pc + 3, ls, rest, h, g) ∧ ((mK m' = 1 ∧ av.length = mN m' ∧ st = av.reverse ++ rest) ∨ ∃ a r, av = .inr (.inr a) :: r ∧ r.length + 1 = mN m' ∧ st = r.reverse ++ .inr (.inr a) :: rest ∧ (mK m' = 0 → isRecv a m' g.1 = true)) := by
                intro ks j h9
                obtain ⟨m2, b, av2, rest, a1, a2, a3, a4, a5, a6, a7, a8⟩ := doCall_spec h9
                cases a7
                exact ⟨b, rest, a1, a2, a3, a4, a5, a6, rfl, a8⟩
              have hk5 : k' = (pc + 3, ls, k'.2.2.1, h, g) := by
                rcases xi_inr he with ⟨j, -, -, h9⟩ | ⟨j, -, -, h9⟩ | ⟨j, -, -, h9⟩ | ⟨-, -, h9⟩ | ⟨-, -, h9⟩ | ⟨-, -, h9⟩
                · obtain ⟨b, rest, a1, a2, a3, a4, a5, a6, a7, a8⟩ := key _ _ h9
                  rw [a7]
                · obtain ⟨b, rest, a1, a2, a3, a4, a5, a6, a7, a8⟩ := key _ _ h9
                  rw [a7]
                · obtain ⟨b, rest, a1, a2, a3, a4, a5, a6, a7, a8⟩ := key _ _ h9
                  rw [a7]
                · unfold retI at h9
                  repeat' (split at h9)
                  all_goals cases h9
                · unfold retL at h9
                  repeat' (split at h9)
                  all_goals cases h9
                · unfold retV at h9
                  repeat' (split at h9)
                  all_goals cases h9
              have hg5 : k'.2.2.2.2 = g := by rw [hk5]
              rw [hg5] at c1 c2 hc
              have hh5 : k'.2.2.2.1 = h := by rw [hk5]
              rw [hh5] at hc
              refine ⟨Nat.le_trans c1 i1, fun q => i2 (c2 q), fun F r9 n9 hgn hret => ?_⟩
              have hg' := c2 hgn
              have ho' := i2 hg'
              have hm := sl_mono i1 ho'
              have kk := i3 F r9 (Nat.le_trans n9 c1) hg' hret
              have r1 : g'.1 - n0 ≤ R.cells := by have := r9.2.2.1; have := i1; show g'.1 - n0 ≤ _; simp only at *; omega
              have r2 : sl g'.1 - sl n0 ≤ R.slots := by have := r9.2.2.2; simp only at *; omega
              rcases xi_inr he with ⟨j, rfl, rfl, h9⟩ | ⟨j, rfl, rfl, h9⟩ | ⟨j, rfl, rfl, h9⟩ | ⟨-, -, h9⟩ | ⟨-, -, h9⟩ | ⟨-, -, h9⟩
              · obtain ⟨b, rest, a1, a2, a3, a4, a5, a6, a7, a8⟩ := key _ _ h9
                have hk0 : mK m' = 0 := by simpa using a5
                have hM := MT_of had ih m' av h g v h' g' l0 a2 hl hc hgn
                subst a7
                rcases a8 with ⟨q1, -⟩ | ⟨a, r, rfl, b2, b3, b4⟩
                · omega
                · exact s_callV F hd a1 hk0 (b4 hk0) b2 b3 a6 (Nat.le_trans a3 r9.1) (Nat.le_trans a4 r9.2.1) n9 c1 hg' r1 r2 hM kk
              · obtain ⟨b, rest, a1, a2, a3, a4, a5, a6, a7, a8⟩ := key _ _ h9
                have hk0 : mK m' = 1 := by simpa using a5
                have hM := MT_of had ih m' av h g v h' g' l0 a2 hl hc hgn
                subst a7
                rcases a8 with ⟨q1, q2, q3⟩ | ⟨a, r, rfl, b2, b3, b4⟩
                · exact s_callS F hd a1 hk0 q2 q3 a6 (Nat.le_trans a3 r9.1) (Nat.le_trans a4 r9.2.1) n9 c1 hg' r1 r2 hM kk
                · exact s_callS F hd a1 hk0 (by simpa using b2) (by rw [b3, List.reverse_cons, List.append_assoc]; rfl) a6 (Nat.le_trans a3 r9.1) (Nat.le_trans a4 r9.2.1) n9 c1 hg' r1 r2 hM kk
              · obtain ⟨b, rest, a1, a2, a3, a4, a5, a6, a7, a8⟩ := key _ _ h9
                have hk0 : mK m' = 2 := by simpa using a5
                have hM := MT_of had ih m' av h g v h' g' l0 a2 hl hc hgn
                subst a7
                rcases a8 with ⟨q1, -⟩ | ⟨a, r, rfl, b2, b3, b4⟩
                · omega
                · exact s_callI F hd a1 hk0 b2 b3 a6 (Nat.le_trans a3 r9.1) (Nat.le_trans a4 r9.2.1) n9 c1 hg' r1 r2 hM kk
              · unfold retI at h9
                repeat' (split at h9)
                all_goals cases h9
              · unfold retL at h9
                repeat' (split at h9)
                all_goals cases h9
              · unfold retV at h9
                repeat' (split at h9)
                all_goals cases h9
            · cases he
      · have ho : o' = o := Option.some.inj hx
        subst ho
        obtain ⟨pc, ls, st, h, g⟩ := k
        have hg : o'.2.2 = g := by
          have he2 := he
          unfold xs at he2
          split at he2
          · rcases xi_inr he2 with ⟨j, -, -, h9⟩ | ⟨j, -, -, h9⟩ | ⟨j, -, -, h9⟩ | ⟨-, -, h9⟩ | ⟨-, -, h9⟩ | ⟨-, -, h9⟩
            · obtain ⟨_, _, _, _, _, _, _, _, _, _, hq9, _⟩ := doCall_spec h9
              cases hq9
            · obtain ⟨_, _, _, _, _, _, _, _, _, _, hq9, _⟩ := doCall_spec h9
              cases hq9
            · obtain ⟨_, _, _, _, _, _, _, _, _, _, hq9, _⟩ := doCall_spec h9
              cases hq9
            · unfold retI at h9
              repeat' (split at h9)
              all_goals (first | (cases h9; rfl) | cases h9)
            · unfold retL at h9
              repeat' (split at h9)
              all_goals (first | (cases h9; rfl) | cases h9)
            · unfold retV at h9
              repeat' (split at h9)
              all_goals (first | (cases h9; rfl) | cases h9)
          · cases he2
        refine ⟨by rw [hg]; exact Nat.le_refl _, fun q => by rw [hg]; exact q, fun F r9 n9 hgn hret => hret pc ls st h g he n9⟩
end MAIN
end
