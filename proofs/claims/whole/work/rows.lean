section
-- ===== PART A: goes FIRST, ahead of the names: the tables' words, and 'selects' of the private methods out of them =====
/-- a private method of a class that the tables say can be made, by its rows of tables_1 -/
def lw_okq (q : MethodName × Nat) : Prop := (q.1.cls ≠ "java/lang/invoke/MethodHandle" ∧ q.1.cls ≠ "java/lang/invoke/VarHandle") ∧ Cond.instantiable q.1.cls q.2 ∈ tables_1 ∧ Cond.privateMethod q.1 ∈ tables_1 ∧ Cond.instanceMethod q.1 ∈ tables_1
theorem lw_p0 : lw_okq (⟨"GoldPlate", "inMessage", "(I)Z"⟩, 13) := ⟨⟨by decide +kernel, by decide +kernel⟩, List.mem_of_getElem? (i := 22) (by decide +kernel), List.mem_of_getElem? (i := 552) (by decide +kernel), List.mem_of_getElem? (i := 553) (by decide +kernel)⟩
theorem lw_p1 : lw_okq (⟨"GoldPlate$Parser", "runEnd", "(I)I"⟩, 10) := ⟨⟨by decide +kernel, by decide +kernel⟩, List.mem_of_getElem? (i := 201) (by decide +kernel), List.mem_of_getElem? (i := 586) (by decide +kernel), List.mem_of_getElem? (i := 587) (by decide +kernel)⟩
theorem lw_p2 : lw_okq (⟨"GoldPlate$Parser", "scanRun", "(II)V"⟩, 10) := ⟨⟨by decide +kernel, by decide +kernel⟩, List.mem_of_getElem? (i := 201) (by decide +kernel), List.mem_of_getElem? (i := 596) (by decide +kernel), List.mem_of_getElem? (i := 597) (by decide +kernel)⟩
theorem lw_p3 : lw_okq (⟨"GoldPlate$Parser", "keyword", "(II)I"⟩, 10) := ⟨⟨by decide +kernel, by decide +kernel⟩, List.mem_of_getElem? (i := 201) (by decide +kernel), List.mem_of_getElem? (i := 600) (by decide +kernel), List.mem_of_getElem? (i := 601) (by decide +kernel)⟩
theorem lw_p4 : lw_okq (⟨"GoldPlate$Parser", "indexIn", "(Ljava/lang/String;II)I"⟩, 10) := ⟨⟨by decide +kernel, by decide +kernel⟩, List.mem_of_getElem? (i := 201) (by decide +kernel), List.mem_of_getElem? (i := 605) (by decide +kernel), List.mem_of_getElem? (i := 606) (by decide +kernel)⟩
theorem lw_p5 : lw_okq (⟨"GoldPlate$Parser", "standsAt", "(Ljava/lang/String;III)Z"⟩, 10) := ⟨⟨by decide +kernel, by decide +kernel⟩, List.mem_of_getElem? (i := 201) (by decide +kernel), List.mem_of_getElem? (i := 657) (by decide +kernel), List.mem_of_getElem? (i := 658) (by decide +kernel)⟩
theorem lw_p6 : lw_okq (⟨"GoldPlate$Parser", "addToken", "(III)V"⟩, 10) := ⟨⟨by decide +kernel, by decide +kernel⟩, List.mem_of_getElem? (i := 201) (by decide +kernel), List.mem_of_getElem? (i := 662) (by decide +kernel), List.mem_of_getElem? (i := 663) (by decide +kernel)⟩
theorem lw_p7 : lw_okq (⟨"GoldPlate$Parser", "numberOf", "(II)I"⟩, 10) := ⟨⟨by decide +kernel, by decide +kernel⟩, List.mem_of_getElem? (i := 201) (by decide +kernel), List.mem_of_getElem? (i := 666) (by decide +kernel), List.mem_of_getElem? (i := 667) (by decide +kernel)⟩
theorem lw_p8 : lw_okq (⟨"GoldPlate$Parser", "kind", "()I"⟩, 10) := ⟨⟨by decide +kernel, by decide +kernel⟩, List.mem_of_getElem? (i := 201) (by decide +kernel), List.mem_of_getElem? (i := 737) (by decide +kernel), List.mem_of_getElem? (i := 738) (by decide +kernel)⟩
theorem lw_p9 : lw_okq (⟨"GoldPlate$Parser", "readLine", "()V"⟩, 10) := ⟨⟨by decide +kernel, by decide +kernel⟩, List.mem_of_getElem? (i := 201) (by decide +kernel), List.mem_of_getElem? (i := 741) (by decide +kernel), List.mem_of_getElem? (i := 742) (by decide +kernel)⟩
theorem lw_p10 : lw_okq (⟨"GoldPlate$Parser", "fail", "(I)V"⟩, 10) := ⟨⟨by decide +kernel, by decide +kernel⟩, List.mem_of_getElem? (i := 201) (by decide +kernel), List.mem_of_getElem? (i := 745) (by decide +kernel), List.mem_of_getElem? (i := 746) (by decide +kernel)⟩
theorem lw_p11 : lw_okq (⟨"GoldPlate$Parser", "expression", "()V"⟩, 10) := ⟨⟨by decide +kernel, by decide +kernel⟩, List.mem_of_getElem? (i := 201) (by decide +kernel), List.mem_of_getElem? (i := 749) (by decide +kernel), List.mem_of_getElem? (i := 750) (by decide +kernel)⟩
theorem lw_p12 : lw_okq (⟨"GoldPlate$Parser", "unit", "()V"⟩, 10) := ⟨⟨by decide +kernel, by decide +kernel⟩, List.mem_of_getElem? (i := 201) (by decide +kernel), List.mem_of_getElem? (i := 753) (by decide +kernel), List.mem_of_getElem? (i := 754) (by decide +kernel)⟩
theorem lw_p13 : lw_okq (⟨"GoldPlate$Parser", "emit", "(II)V"⟩, 10) := ⟨⟨by decide +kernel, by decide +kernel⟩, List.mem_of_getElem? (i := 201) (by decide +kernel), List.mem_of_getElem? (i := 757) (by decide +kernel), List.mem_of_getElem? (i := 758) (by decide +kernel)⟩
theorem lw_p14 : lw_okq (⟨"GoldPlate$Parser", "part", "()V"⟩, 10) := ⟨⟨by decide +kernel, by decide +kernel⟩, List.mem_of_getElem? (i := 201) (by decide +kernel), List.mem_of_getElem? (i := 761) (by decide +kernel), List.mem_of_getElem? (i := 762) (by decide +kernel)⟩
theorem lw_p15 : lw_okq (⟨"GoldPlate$Parser", "condition", "(I)V"⟩, 10) := ⟨⟨by decide +kernel, by decide +kernel⟩, List.mem_of_getElem? (i := 201) (by decide +kernel), List.mem_of_getElem? (i := 765) (by decide +kernel), List.mem_of_getElem? (i := 766) (by decide +kernel)⟩
def lw_privs_1 : List (MethodName × Nat) := [(⟨"GoldPlate", "inMessage", "(I)Z"⟩, 13), (⟨"GoldPlate$Parser", "runEnd", "(I)I"⟩, 10), (⟨"GoldPlate$Parser", "scanRun", "(II)V"⟩, 10), (⟨"GoldPlate$Parser", "keyword", "(II)I"⟩, 10), (⟨"GoldPlate$Parser", "indexIn", "(Ljava/lang/String;II)I"⟩, 10), (⟨"GoldPlate$Parser", "standsAt", "(Ljava/lang/String;III)Z"⟩, 10), (⟨"GoldPlate$Parser", "addToken", "(III)V"⟩, 10), (⟨"GoldPlate$Parser", "numberOf", "(II)I"⟩, 10), (⟨"GoldPlate$Parser", "kind", "()I"⟩, 10), (⟨"GoldPlate$Parser", "readLine", "()V"⟩, 10), (⟨"GoldPlate$Parser", "fail", "(I)V"⟩, 10), (⟨"GoldPlate$Parser", "expression", "()V"⟩, 10), (⟨"GoldPlate$Parser", "unit", "()V"⟩, 10), (⟨"GoldPlate$Parser", "emit", "(II)V"⟩, 10), (⟨"GoldPlate$Parser", "part", "()V"⟩, 10), (⟨"GoldPlate$Parser", "condition", "(I)V"⟩, 10)]
theorem lw_r1 : ∀ q ∈ lw_privs_1, lw_okq q := List.forall_mem_cons.mpr ⟨lw_p0, List.forall_mem_cons.mpr ⟨lw_p1, List.forall_mem_cons.mpr ⟨lw_p2, List.forall_mem_cons.mpr ⟨lw_p3, List.forall_mem_cons.mpr ⟨lw_p4, List.forall_mem_cons.mpr ⟨lw_p5, List.forall_mem_cons.mpr ⟨lw_p6, List.forall_mem_cons.mpr ⟨lw_p7, List.forall_mem_cons.mpr ⟨lw_p8, List.forall_mem_cons.mpr ⟨lw_p9, List.forall_mem_cons.mpr ⟨lw_p10, List.forall_mem_cons.mpr ⟨lw_p11, List.forall_mem_cons.mpr ⟨lw_p12, List.forall_mem_cons.mpr ⟨lw_p13, List.forall_mem_cons.mpr ⟨lw_p14, List.forall_mem_cons.mpr ⟨lw_p15, fun _ h => absurd h List.not_mem_nil⟩⟩⟩⟩⟩⟩⟩⟩⟩⟩⟩⟩⟩⟩⟩⟩
theorem lw_p16 : lw_okq (⟨"GoldPlate$Parser", "check", "(I)V"⟩, 10) := ⟨⟨by decide +kernel, by decide +kernel⟩, List.mem_of_getElem? (i := 201) (by decide +kernel), List.mem_of_getElem? (i := 769) (by decide +kernel), List.mem_of_getElem? (i := 770) (by decide +kernel)⟩
theorem lw_p17 : lw_okq (⟨"GoldPlate$Parser", "expect", "(I)V"⟩, 10) := ⟨⟨by decide +kernel, by decide +kernel⟩, List.mem_of_getElem? (i := 201) (by decide +kernel), List.mem_of_getElem? (i := 773) (by decide +kernel), List.mem_of_getElem? (i := 774) (by decide +kernel)⟩
theorem lw_p18 : lw_okq (⟨"GoldPlate$Parser", "expectComparison", "(I)V"⟩, 10) := ⟨⟨by decide +kernel, by decide +kernel⟩, List.mem_of_getElem? (i := 201) (by decide +kernel), List.mem_of_getElem? (i := 777) (by decide +kernel), List.mem_of_getElem? (i := 778) (by decide +kernel)⟩
theorem lw_p19 : lw_okq (⟨"GoldPlate$Parser", "readNumber", "(I)V"⟩, 10) := ⟨⟨by decide +kernel, by decide +kernel⟩, List.mem_of_getElem? (i := 201) (by decide +kernel), List.mem_of_getElem? (i := 781) (by decide +kernel), List.mem_of_getElem? (i := 782) (by decide +kernel)⟩
theorem lw_p20 : lw_okq (⟨"GoldPlate$Search", "takingsOf", "(LGoldPlate$Mark;LGoldPlate$Mind;I)I"⟩, 13) := ⟨⟨by decide +kernel, by decide +kernel⟩, List.mem_of_getElem? (i := 244) (by decide +kernel), List.mem_of_getElem? (i := 799) (by decide +kernel), List.mem_of_getElem? (i := 800) (by decide +kernel)⟩
theorem lw_p21 : lw_okq (⟨"GoldPlate$Search", "priceAll", "(ILGoldPlate$Mind;)V"⟩, 13) := ⟨⟨by decide +kernel, by decide +kernel⟩, List.mem_of_getElem? (i := 244) (by decide +kernel), List.mem_of_getElem? (i := 807) (by decide +kernel), List.mem_of_getElem? (i := 808) (by decide +kernel)⟩
theorem lw_p22 : lw_okq (⟨"GoldPlate$Sums", "step", "(II)V"⟩, 3) := ⟨⟨by decide +kernel, by decide +kernel⟩, List.mem_of_getElem? (i := 183) (by decide +kernel), List.mem_of_getElem? (i := 826) (by decide +kernel), List.mem_of_getElem? (i := 827) (by decide +kernel)⟩
theorem lw_p23 : lw_okq (⟨"GoldPlate$Search", "setFloors", "()V"⟩, 13) := ⟨⟨by decide +kernel, by decide +kernel⟩, List.mem_of_getElem? (i := 244) (by decide +kernel), List.mem_of_getElem? (i := 835) (by decide +kernel), List.mem_of_getElem? (i := 836) (by decide +kernel)⟩
theorem lw_p24 : lw_okq (⟨"GoldPlate$Search", "walk", "(IIII)V"⟩, 13) := ⟨⟨by decide +kernel, by decide +kernel⟩, List.mem_of_getElem? (i := 244) (by decide +kernel), List.mem_of_getElem? (i := 843) (by decide +kernel), List.mem_of_getElem? (i := 844) (by decide +kernel)⟩
theorem lw_p25 : lw_okq (⟨"GoldPlate$Search", "arrive", "(I)V"⟩, 13) := ⟨⟨by decide +kernel, by decide +kernel⟩, List.mem_of_getElem? (i := 244) (by decide +kernel), List.mem_of_getElem? (i := 847) (by decide +kernel), List.mem_of_getElem? (i := 848) (by decide +kernel)⟩
theorem lw_p26 : lw_okq (⟨"GoldPlate", "findCheapest", "(JII)V"⟩, 13) := ⟨⟨by decide +kernel, by decide +kernel⟩, List.mem_of_getElem? (i := 22) (by decide +kernel), List.mem_of_getElem? (i := 859) (by decide +kernel), List.mem_of_getElem? (i := 860) (by decide +kernel)⟩
theorem lw_p27 : lw_okq (⟨"GoldPlate$Widths", "insert", "(II)V"⟩, 3) := ⟨⟨by decide +kernel, by decide +kernel⟩, List.mem_of_getElem? (i := 352) (by decide +kernel), List.mem_of_getElem? (i := 946) (by decide +kernel), List.mem_of_getElem? (i := 947) (by decide +kernel)⟩
theorem lw_p28 : lw_okq (⟨"GoldPlate$Sky", "anyFound", "()Z"⟩, 13) := ⟨⟨by decide +kernel, by decide +kernel⟩, List.mem_of_getElem? (i := 370) (by decide +kernel), List.mem_of_getElem? (i := 997) (by decide +kernel), List.mem_of_getElem? (i := 998) (by decide +kernel)⟩
theorem lw_p29 : lw_okq (⟨"GoldPlate$Sky", "fitsAll", "(I)Z"⟩, 13) := ⟨⟨by decide +kernel, by decide +kernel⟩, List.mem_of_getElem? (i := 370) (by decide +kernel), List.mem_of_getElem? (i := 1001) (by decide +kernel), List.mem_of_getElem? (i := 1002) (by decide +kernel)⟩
theorem lw_p30 : lw_okq (⟨"GoldPlate$Sky", "fits", "(II)Z"⟩, 13) := ⟨⟨by decide +kernel, by decide +kernel⟩, List.mem_of_getElem? (i := 370) (by decide +kernel), List.mem_of_getElem? (i := 1005) (by decide +kernel), List.mem_of_getElem? (i := 1006) (by decide +kernel)⟩
theorem lw_p31 : lw_okq (⟨"GoldPlate$Sky", "isPlace", "(III)Z"⟩, 13) := ⟨⟨by decide +kernel, by decide +kernel⟩, List.mem_of_getElem? (i := 370) (by decide +kernel), List.mem_of_getElem? (i := 1018) (by decide +kernel), List.mem_of_getElem? (i := 1019) (by decide +kernel)⟩
def lw_privs_2 : List (MethodName × Nat) := [(⟨"GoldPlate$Parser", "check", "(I)V"⟩, 10), (⟨"GoldPlate$Parser", "expect", "(I)V"⟩, 10), (⟨"GoldPlate$Parser", "expectComparison", "(I)V"⟩, 10), (⟨"GoldPlate$Parser", "readNumber", "(I)V"⟩, 10), (⟨"GoldPlate$Search", "takingsOf", "(LGoldPlate$Mark;LGoldPlate$Mind;I)I"⟩, 13), (⟨"GoldPlate$Search", "priceAll", "(ILGoldPlate$Mind;)V"⟩, 13), (⟨"GoldPlate$Sums", "step", "(II)V"⟩, 3), (⟨"GoldPlate$Search", "setFloors", "()V"⟩, 13), (⟨"GoldPlate$Search", "walk", "(IIII)V"⟩, 13), (⟨"GoldPlate$Search", "arrive", "(I)V"⟩, 13), (⟨"GoldPlate", "findCheapest", "(JII)V"⟩, 13), (⟨"GoldPlate$Widths", "insert", "(II)V"⟩, 3), (⟨"GoldPlate$Sky", "anyFound", "()Z"⟩, 13), (⟨"GoldPlate$Sky", "fitsAll", "(I)Z"⟩, 13), (⟨"GoldPlate$Sky", "fits", "(II)Z"⟩, 13), (⟨"GoldPlate$Sky", "isPlace", "(III)Z"⟩, 13)]
theorem lw_r2 : ∀ q ∈ lw_privs_2, lw_okq q := List.forall_mem_cons.mpr ⟨lw_p16, List.forall_mem_cons.mpr ⟨lw_p17, List.forall_mem_cons.mpr ⟨lw_p18, List.forall_mem_cons.mpr ⟨lw_p19, List.forall_mem_cons.mpr ⟨lw_p20, List.forall_mem_cons.mpr ⟨lw_p21, List.forall_mem_cons.mpr ⟨lw_p22, List.forall_mem_cons.mpr ⟨lw_p23, List.forall_mem_cons.mpr ⟨lw_p24, List.forall_mem_cons.mpr ⟨lw_p25, List.forall_mem_cons.mpr ⟨lw_p26, List.forall_mem_cons.mpr ⟨lw_p27, List.forall_mem_cons.mpr ⟨lw_p28, List.forall_mem_cons.mpr ⟨lw_p29, List.forall_mem_cons.mpr ⟨lw_p30, List.forall_mem_cons.mpr ⟨lw_p31, fun _ h => absurd h List.not_mem_nil⟩⟩⟩⟩⟩⟩⟩⟩⟩⟩⟩⟩⟩⟩⟩⟩
theorem lw_p32 : lw_okq (⟨"GoldPlate$Chooser", "ableMarks", "(LGoldPlate$Mind;)I"⟩, 12) := ⟨⟨by decide +kernel, by decide +kernel⟩, List.mem_of_getElem? (i := 291) (by decide +kernel), List.mem_of_getElem? (i := 1044) (by decide +kernel), List.mem_of_getElem? (i := 1045) (by decide +kernel)⟩
theorem lw_p33 : lw_okq (⟨"GoldPlate$Chooser", "grow", "(IIII)V"⟩, 12) := ⟨⟨by decide +kernel, by decide +kernel⟩, List.mem_of_getElem? (i := 291) (by decide +kernel), List.mem_of_getElem? (i := 1049) (by decide +kernel), List.mem_of_getElem? (i := 1050) (by decide +kernel)⟩
theorem lw_p34 : lw_okq (⟨"GoldPlate$Chooser", "judge", "(III)V"⟩, 12) := ⟨⟨by decide +kernel, by decide +kernel⟩, List.mem_of_getElem? (i := 291) (by decide +kernel), List.mem_of_getElem? (i := 1053) (by decide +kernel), List.mem_of_getElem? (i := 1054) (by decide +kernel)⟩
theorem lw_p35 : lw_okq (⟨"GoldPlate$Chooser", "scoreOf", "(I)I"⟩, 12) := ⟨⟨by decide +kernel, by decide +kernel⟩, List.mem_of_getElem? (i := 291) (by decide +kernel), List.mem_of_getElem? (i := 1057) (by decide +kernel), List.mem_of_getElem? (i := 1058) (by decide +kernel)⟩
theorem lw_p36 : lw_okq (⟨"GoldPlate$Chooser", "gains", "(II)Z"⟩, 12) := ⟨⟨by decide +kernel, by decide +kernel⟩, List.mem_of_getElem? (i := 291) (by decide +kernel), List.mem_of_getElem? (i := 1067) (by decide +kernel), List.mem_of_getElem? (i := 1068) (by decide +kernel)⟩
theorem lw_p37 : lw_okq (⟨"GoldPlate", "countTold", "(III)I"⟩, 13) := ⟨⟨by decide +kernel, by decide +kernel⟩, List.mem_of_getElem? (i := 22) (by decide +kernel), List.mem_of_getElem? (i := 1079) (by decide +kernel), List.mem_of_getElem? (i := 1080) (by decide +kernel)⟩
theorem lw_p38 : lw_okq (⟨"GoldPlate", "othersAreThere", "(I)Z"⟩, 13) := ⟨⟨by decide +kernel, by decide +kernel⟩, List.mem_of_getElem? (i := 22) (by decide +kernel), List.mem_of_getElem? (i := 1088) (by decide +kernel), List.mem_of_getElem? (i := 1089) (by decide +kernel)⟩
theorem lw_p39 : lw_okq (⟨"GoldPlate", "marksAtPlaces", "(I)I"⟩, 13) := ⟨⟨by decide +kernel, by decide +kernel⟩, List.mem_of_getElem? (i := 22) (by decide +kernel), List.mem_of_getElem? (i := 1120) (by decide +kernel), List.mem_of_getElem? (i := 1121) (by decide +kernel)⟩
theorem lw_p40 : lw_okq (⟨"GoldPlateModel", "isMark", "(I)Z"⟩, 70) := ⟨⟨by decide +kernel, by decide +kernel⟩, List.mem_of_getElem? (i := 1128) (by decide +kernel), List.mem_of_getElem? (i := 1356) (by decide +kernel), List.mem_of_getElem? (i := 1357) (by decide +kernel)⟩
theorem lw_p41 : lw_okq (⟨"GoldPlateModel", "chain", "(I)I"⟩, 70) := ⟨⟨by decide +kernel, by decide +kernel⟩, List.mem_of_getElem? (i := 1128) (by decide +kernel), List.mem_of_getElem? (i := 1373) (by decide +kernel), List.mem_of_getElem? (i := 1374) (by decide +kernel)⟩
theorem lw_p42 : lw_okq (⟨"GoldPlateModel", "left", "(II)I"⟩, 70) := ⟨⟨by decide +kernel, by decide +kernel⟩, List.mem_of_getElem? (i := 1128) (by decide +kernel), List.mem_of_getElem? (i := 1377) (by decide +kernel), List.mem_of_getElem? (i := 1378) (by decide +kernel)⟩
theorem lw_p43 : lw_okq (⟨"GoldPlateModel", "depth", "(I)I"⟩, 70) := ⟨⟨by decide +kernel, by decide +kernel⟩, List.mem_of_getElem? (i := 1128) (by decide +kernel), List.mem_of_getElem? (i := 1381) (by decide +kernel), List.mem_of_getElem? (i := 1382) (by decide +kernel)⟩
theorem lw_p44 : lw_okq (⟨"GoldPlateModel", "isWorn", "(I)Z"⟩, 70) := ⟨⟨by decide +kernel, by decide +kernel⟩, List.mem_of_getElem? (i := 1128) (by decide +kernel), List.mem_of_getElem? (i := 1385) (by decide +kernel), List.mem_of_getElem? (i := 1386) (by decide +kernel)⟩
theorem lw_p45 : lw_okq (⟨"GoldPlateModel", "isMind", "(I)Z"⟩, 70) := ⟨⟨by decide +kernel, by decide +kernel⟩, List.mem_of_getElem? (i := 1128) (by decide +kernel), List.mem_of_getElem? (i := 1405) (by decide +kernel), List.mem_of_getElem? (i := 1406) (by decide +kernel)⟩
theorem lw_p46 : lw_okq (⟨"GoldPlateModel", "next0", "()V"⟩, 70) := ⟨⟨by decide +kernel, by decide +kernel⟩, List.mem_of_getElem? (i := 1128) (by decide +kernel), List.mem_of_getElem? (i := 1409) (by decide +kernel), List.mem_of_getElem? (i := 1410) (by decide +kernel)⟩
theorem lw_p47 : lw_okq (⟨"GoldPlateModel", "see", "(I)I"⟩, 70) := ⟨⟨by decide +kernel, by decide +kernel⟩, List.mem_of_getElem? (i := 1128) (by decide +kernel), List.mem_of_getElem? (i := 1413) (by decide +kernel), List.mem_of_getElem? (i := 1414) (by decide +kernel)⟩
def lw_privs_3 : List (MethodName × Nat) := [(⟨"GoldPlate$Chooser", "ableMarks", "(LGoldPlate$Mind;)I"⟩, 12), (⟨"GoldPlate$Chooser", "grow", "(IIII)V"⟩, 12), (⟨"GoldPlate$Chooser", "judge", "(III)V"⟩, 12), (⟨"GoldPlate$Chooser", "scoreOf", "(I)I"⟩, 12), (⟨"GoldPlate$Chooser", "gains", "(II)Z"⟩, 12), (⟨"GoldPlate", "countTold", "(III)I"⟩, 13), (⟨"GoldPlate", "othersAreThere", "(I)Z"⟩, 13), (⟨"GoldPlate", "marksAtPlaces", "(I)I"⟩, 13), (⟨"GoldPlateModel", "isMark", "(I)Z"⟩, 70), (⟨"GoldPlateModel", "chain", "(I)I"⟩, 70), (⟨"GoldPlateModel", "left", "(II)I"⟩, 70), (⟨"GoldPlateModel", "depth", "(I)I"⟩, 70), (⟨"GoldPlateModel", "isWorn", "(I)Z"⟩, 70), (⟨"GoldPlateModel", "isMind", "(I)Z"⟩, 70), (⟨"GoldPlateModel", "next0", "()V"⟩, 70), (⟨"GoldPlateModel", "see", "(I)I"⟩, 70)]
theorem lw_r3 : ∀ q ∈ lw_privs_3, lw_okq q := List.forall_mem_cons.mpr ⟨lw_p32, List.forall_mem_cons.mpr ⟨lw_p33, List.forall_mem_cons.mpr ⟨lw_p34, List.forall_mem_cons.mpr ⟨lw_p35, List.forall_mem_cons.mpr ⟨lw_p36, List.forall_mem_cons.mpr ⟨lw_p37, List.forall_mem_cons.mpr ⟨lw_p38, List.forall_mem_cons.mpr ⟨lw_p39, List.forall_mem_cons.mpr ⟨lw_p40, List.forall_mem_cons.mpr ⟨lw_p41, List.forall_mem_cons.mpr ⟨lw_p42, List.forall_mem_cons.mpr ⟨lw_p43, List.forall_mem_cons.mpr ⟨lw_p44, List.forall_mem_cons.mpr ⟨lw_p45, List.forall_mem_cons.mpr ⟨lw_p46, List.forall_mem_cons.mpr ⟨lw_p47, fun _ h => absurd h List.not_mem_nil⟩⟩⟩⟩⟩⟩⟩⟩⟩⟩⟩⟩⟩⟩⟩⟩
theorem lw_p48 : lw_okq (⟨"GoldPlateModel", "word", "()I"⟩, 70) := ⟨⟨by decide +kernel, by decide +kernel⟩, List.mem_of_getElem? (i := 1128) (by decide +kernel), List.mem_of_getElem? (i := 1420) (by decide +kernel), List.mem_of_getElem? (i := 1421) (by decide +kernel)⟩
theorem lw_p49 : lw_okq (⟨"GoldPlateModel", "is", "(Ljava/lang/String;)Z"⟩, 70) := ⟨⟨by decide +kernel, by decide +kernel⟩, List.mem_of_getElem? (i := 1128) (by decide +kernel), List.mem_of_getElem? (i := 1425) (by decide +kernel), List.mem_of_getElem? (i := 1426) (by decide +kernel)⟩
theorem lw_p50 : lw_okq (⟨"GoldPlateModel", "name", "()I"⟩, 70) := ⟨⟨by decide +kernel, by decide +kernel⟩, List.mem_of_getElem? (i := 1128) (by decide +kernel), List.mem_of_getElem? (i := 1439) (by decide +kernel), List.mem_of_getElem? (i := 1440) (by decide +kernel)⟩
theorem lw_p51 : lw_okq (⟨"GoldPlateModel", "aLine", "()Z"⟩, 70) := ⟨⟨by decide +kernel, by decide +kernel⟩, List.mem_of_getElem? (i := 1128) (by decide +kernel), List.mem_of_getElem? (i := 1459) (by decide +kernel), List.mem_of_getElem? (i := 1460) (by decide +kernel)⟩
theorem lw_p52 : lw_okq (⟨"GoldPlateModel", "bad", "(I)Z"⟩, 70) := ⟨⟨by decide +kernel, by decide +kernel⟩, List.mem_of_getElem? (i := 1128) (by decide +kernel), List.mem_of_getElem? (i := 1463) (by decide +kernel), List.mem_of_getElem? (i := 1464) (by decide +kernel)⟩
theorem lw_p53 : lw_okq (⟨"GoldPlateModel", "number", "(II)Z"⟩, 70) := ⟨⟨by decide +kernel, by decide +kernel⟩, List.mem_of_getElem? (i := 1128) (by decide +kernel), List.mem_of_getElem? (i := 1467) (by decide +kernel), List.mem_of_getElem? (i := 1468) (by decide +kernel)⟩
theorem lw_p54 : lw_okq (⟨"GoldPlateModel", "aPrice", "()Z"⟩, 70) := ⟨⟨by decide +kernel, by decide +kernel⟩, List.mem_of_getElem? (i := 1128) (by decide +kernel), List.mem_of_getElem? (i := 1471) (by decide +kernel), List.mem_of_getElem? (i := 1472) (by decide +kernel)⟩
theorem lw_p55 : lw_okq (⟨"GoldPlateModel", "sumUp", "()Z"⟩, 70) := ⟨⟨by decide +kernel, by decide +kernel⟩, List.mem_of_getElem? (i := 1128) (by decide +kernel), List.mem_of_getElem? (i := 1475) (by decide +kernel), List.mem_of_getElem? (i := 1476) (by decide +kernel)⟩
theorem lw_p56 : lw_okq (⟨"GoldPlateModel", "product", "()Z"⟩, 70) := ⟨⟨by decide +kernel, by decide +kernel⟩, List.mem_of_getElem? (i := 1128) (by decide +kernel), List.mem_of_getElem? (i := 1479) (by decide +kernel), List.mem_of_getElem? (i := 1480) (by decide +kernel)⟩
theorem lw_p57 : lw_okq (⟨"GoldPlateModel", "unit", "()Z"⟩, 70) := ⟨⟨by decide +kernel, by decide +kernel⟩, List.mem_of_getElem? (i := 1128) (by decide +kernel), List.mem_of_getElem? (i := 1483) (by decide +kernel), List.mem_of_getElem? (i := 1484) (by decide +kernel)⟩
theorem lw_p58 : lw_okq (⟨"GoldPlateModel", "lay", "(II)V"⟩, 70) := ⟨⟨by decide +kernel, by decide +kernel⟩, List.mem_of_getElem? (i := 1128) (by decide +kernel), List.mem_of_getElem? (i := 1487) (by decide +kernel), List.mem_of_getElem? (i := 1488) (by decide +kernel)⟩
theorem lw_p59 : lw_okq (⟨"GoldPlateModel", "any", "()Z"⟩, 70) := ⟨⟨by decide +kernel, by decide +kernel⟩, List.mem_of_getElem? (i := 1128) (by decide +kernel), List.mem_of_getElem? (i := 1491) (by decide +kernel), List.mem_of_getElem? (i := 1492) (by decide +kernel)⟩
theorem lw_p60 : lw_okq (⟨"GoldPlateModel", "every", "()Z"⟩, 70) := ⟨⟨by decide +kernel, by decide +kernel⟩, List.mem_of_getElem? (i := 1128) (by decide +kernel), List.mem_of_getElem? (i := 1495) (by decide +kernel), List.mem_of_getElem? (i := 1496) (by decide +kernel)⟩
theorem lw_p61 : lw_okq (⟨"GoldPlateModel", "one", "()Z"⟩, 70) := ⟨⟨by decide +kernel, by decide +kernel⟩, List.mem_of_getElem? (i := 1128) (by decide +kernel), List.mem_of_getElem? (i := 1499) (by decide +kernel), List.mem_of_getElem? (i := 1500) (by decide +kernel)⟩
theorem lw_p62 : lw_okq (⟨"GoldPlateModel", "opens", "()Z"⟩, 70) := ⟨⟨by decide +kernel, by decide +kernel⟩, List.mem_of_getElem? (i := 1128) (by decide +kernel), List.mem_of_getElem? (i := 1503) (by decide +kernel), List.mem_of_getElem? (i := 1504) (by decide +kernel)⟩
theorem lw_p63 : lw_okq (⟨"GoldPlateModel", "need", "(I)Z"⟩, 70) := ⟨⟨by decide +kernel, by decide +kernel⟩, List.mem_of_getElem? (i := 1128) (by decide +kernel), List.mem_of_getElem? (i := 1507) (by decide +kernel), List.mem_of_getElem? (i := 1508) (by decide +kernel)⟩
def lw_privs_4 : List (MethodName × Nat) := [(⟨"GoldPlateModel", "word", "()I"⟩, 70), (⟨"GoldPlateModel", "is", "(Ljava/lang/String;)Z"⟩, 70), (⟨"GoldPlateModel", "name", "()I"⟩, 70), (⟨"GoldPlateModel", "aLine", "()Z"⟩, 70), (⟨"GoldPlateModel", "bad", "(I)Z"⟩, 70), (⟨"GoldPlateModel", "number", "(II)Z"⟩, 70), (⟨"GoldPlateModel", "aPrice", "()Z"⟩, 70), (⟨"GoldPlateModel", "sumUp", "()Z"⟩, 70), (⟨"GoldPlateModel", "product", "()Z"⟩, 70), (⟨"GoldPlateModel", "unit", "()Z"⟩, 70), (⟨"GoldPlateModel", "lay", "(II)V"⟩, 70), (⟨"GoldPlateModel", "any", "()Z"⟩, 70), (⟨"GoldPlateModel", "every", "()Z"⟩, 70), (⟨"GoldPlateModel", "one", "()Z"⟩, 70), (⟨"GoldPlateModel", "opens", "()Z"⟩, 70), (⟨"GoldPlateModel", "need", "(I)Z"⟩, 70)]
theorem lw_r4 : ∀ q ∈ lw_privs_4, lw_okq q := List.forall_mem_cons.mpr ⟨lw_p48, List.forall_mem_cons.mpr ⟨lw_p49, List.forall_mem_cons.mpr ⟨lw_p50, List.forall_mem_cons.mpr ⟨lw_p51, List.forall_mem_cons.mpr ⟨lw_p52, List.forall_mem_cons.mpr ⟨lw_p53, List.forall_mem_cons.mpr ⟨lw_p54, List.forall_mem_cons.mpr ⟨lw_p55, List.forall_mem_cons.mpr ⟨lw_p56, List.forall_mem_cons.mpr ⟨lw_p57, List.forall_mem_cons.mpr ⟨lw_p58, List.forall_mem_cons.mpr ⟨lw_p59, List.forall_mem_cons.mpr ⟨lw_p60, List.forall_mem_cons.mpr ⟨lw_p61, List.forall_mem_cons.mpr ⟨lw_p62, List.forall_mem_cons.mpr ⟨lw_p63, fun _ h => absurd h List.not_mem_nil⟩⟩⟩⟩⟩⟩⟩⟩⟩⟩⟩⟩⟩⟩⟩⟩
theorem lw_p64 : lw_okq (⟨"GoldPlateModel", "takesMind", "(II)V"⟩, 70) := ⟨⟨by decide +kernel, by decide +kernel⟩, List.mem_of_getElem? (i := 1128) (by decide +kernel), List.mem_of_getElem? (i := 1511) (by decide +kernel), List.mem_of_getElem? (i := 1512) (by decide +kernel)⟩
theorem lw_p65 : lw_okq (⟨"GoldPlateModel", "laysPrices", "(I)V"⟩, 70) := ⟨⟨by decide +kernel, by decide +kernel⟩, List.mem_of_getElem? (i := 1128) (by decide +kernel), List.mem_of_getElem? (i := 1523) (by decide +kernel), List.mem_of_getElem? (i := 1524) (by decide +kernel)⟩
theorem lw_p66 : lw_okq (⟨"GoldPlateModel", "priceNow", "(I)I"⟩, 70) := ⟨⟨by decide +kernel, by decide +kernel⟩, List.mem_of_getElem? (i := 1128) (by decide +kernel), List.mem_of_getElem? (i := 1527) (by decide +kernel), List.mem_of_getElem? (i := 1528) (by decide +kernel)⟩
theorem lw_p67 : lw_okq (⟨"GoldPlateModel", "comesTo", "(III)I"⟩, 70) := ⟨⟨by decide +kernel, by decide +kernel⟩, List.mem_of_getElem? (i := 1128) (by decide +kernel), List.mem_of_getElem? (i := 1531) (by decide +kernel), List.mem_of_getElem? (i := 1532) (by decide +kernel)⟩
theorem lw_p68 : lw_okq (⟨"GoldPlateModel", "goesOn", "(IIZ)V"⟩, 70) := ⟨⟨by decide +kernel, by decide +kernel⟩, List.mem_of_getElem? (i := 1128) (by decide +kernel), List.mem_of_getElem? (i := 1538) (by decide +kernel), List.mem_of_getElem? (i := 1539) (by decide +kernel)⟩
theorem lw_p69 : lw_okq (⟨"GoldPlateModel", "canTake", "(II)Z"⟩, 70) := ⟨⟨by decide +kernel, by decide +kernel⟩, List.mem_of_getElem? (i := 1128) (by decide +kernel), List.mem_of_getElem? (i := 1542) (by decide +kernel), List.mem_of_getElem? (i := 1543) (by decide +kernel)⟩
theorem lw_p70 : lw_okq (⟨"GoldPlateModel", "canSee", "(III)Z"⟩, 70) := ⟨⟨by decide +kernel, by decide +kernel⟩, List.mem_of_getElem? (i := 1128) (by decide +kernel), List.mem_of_getElem? (i := 1546) (by decide +kernel), List.mem_of_getElem? (i := 1547) (by decide +kernel)⟩
theorem lw_p71 : lw_okq (⟨"GoldPlateModel", "isTwice", "(II)Z"⟩, 70) := ⟨⟨by decide +kernel, by decide +kernel⟩, List.mem_of_getElem? (i := 1128) (by decide +kernel), List.mem_of_getElem? (i := 1550) (by decide +kernel), List.mem_of_getElem? (i := 1551) (by decide +kernel)⟩
theorem lw_p72 : lw_okq (⟨"GoldPlateModel", "thing", "(II)I"⟩, 70) := ⟨⟨by decide +kernel, by decide +kernel⟩, List.mem_of_getElem? (i := 1128) (by decide +kernel), List.mem_of_getElem? (i := 1554) (by decide +kernel), List.mem_of_getElem? (i := 1555) (by decide +kernel)⟩
theorem lw_p73 : lw_okq (⟨"GoldPlateModel", "seeks", "(I)V"⟩, 70) := ⟨⟨by decide +kernel, by decide +kernel⟩, List.mem_of_getElem? (i := 1128) (by decide +kernel), List.mem_of_getElem? (i := 1562) (by decide +kernel), List.mem_of_getElem? (i := 1563) (by decide +kernel)⟩
theorem lw_p74 : lw_okq (⟨"GoldPlateModel", "allNeeds", "(I)I"⟩, 70) := ⟨⟨by decide +kernel, by decide +kernel⟩, List.mem_of_getElem? (i := 1128) (by decide +kernel), List.mem_of_getElem? (i := 1566) (by decide +kernel), List.mem_of_getElem? (i := 1567) (by decide +kernel)⟩
theorem lw_p75 : lw_okq (⟨"GoldPlateModel", "isAlone", "(III)Z"⟩, 70) := ⟨⟨by decide +kernel, by decide +kernel⟩, List.mem_of_getElem? (i := 1128) (by decide +kernel), List.mem_of_getElem? (i := 1574) (by decide +kernel), List.mem_of_getElem? (i := 1575) (by decide +kernel)⟩
theorem lw_p76 : lw_okq (⟨"GoldPlateModel", "findsWidths", "(I)V"⟩, 70) := ⟨⟨by decide +kernel, by decide +kernel⟩, List.mem_of_getElem? (i := 1128) (by decide +kernel), List.mem_of_getElem? (i := 1590) (by decide +kernel), List.mem_of_getElem? (i := 1591) (by decide +kernel)⟩
theorem lw_p77 : lw_okq (⟨"GoldPlateModel", "isWidth", "(I)Z"⟩, 70) := ⟨⟨by decide +kernel, by decide +kernel⟩, List.mem_of_getElem? (i := 1128) (by decide +kernel), List.mem_of_getElem? (i := 1594) (by decide +kernel), List.mem_of_getElem? (i := 1595) (by decide +kernel)⟩
theorem lw_p78 : lw_okq (⟨"GoldPlateModel", "triedAs", "(II)I"⟩, 70) := ⟨⟨by decide +kernel, by decide +kernel⟩, List.mem_of_getElem? (i := 1128) (by decide +kernel), List.mem_of_getElem? (i := 1598) (by decide +kernel), List.mem_of_getElem? (i := 1599) (by decide +kernel)⟩
theorem lw_p79 : lw_okq (⟨"GoldPlateModel", "edges", "(II)I"⟩, 70) := ⟨⟨by decide +kernel, by decide +kernel⟩, List.mem_of_getElem? (i := 1128) (by decide +kernel), List.mem_of_getElem? (i := 1605) (by decide +kernel), List.mem_of_getElem? (i := 1606) (by decide +kernel)⟩
def lw_privs_5 : List (MethodName × Nat) := [(⟨"GoldPlateModel", "takesMind", "(II)V"⟩, 70), (⟨"GoldPlateModel", "laysPrices", "(I)V"⟩, 70), (⟨"GoldPlateModel", "priceNow", "(I)I"⟩, 70), (⟨"GoldPlateModel", "comesTo", "(III)I"⟩, 70), (⟨"GoldPlateModel", "goesOn", "(IIZ)V"⟩, 70), (⟨"GoldPlateModel", "canTake", "(II)Z"⟩, 70), (⟨"GoldPlateModel", "canSee", "(III)Z"⟩, 70), (⟨"GoldPlateModel", "isTwice", "(II)Z"⟩, 70), (⟨"GoldPlateModel", "thing", "(II)I"⟩, 70), (⟨"GoldPlateModel", "seeks", "(I)V"⟩, 70), (⟨"GoldPlateModel", "allNeeds", "(I)I"⟩, 70), (⟨"GoldPlateModel", "isAlone", "(III)Z"⟩, 70), (⟨"GoldPlateModel", "findsWidths", "(I)V"⟩, 70), (⟨"GoldPlateModel", "isWidth", "(I)Z"⟩, 70), (⟨"GoldPlateModel", "triedAs", "(II)I"⟩, 70), (⟨"GoldPlateModel", "edges", "(II)I"⟩, 70)]
theorem lw_r5 : ∀ q ∈ lw_privs_5, lw_okq q := List.forall_mem_cons.mpr ⟨lw_p64, List.forall_mem_cons.mpr ⟨lw_p65, List.forall_mem_cons.mpr ⟨lw_p66, List.forall_mem_cons.mpr ⟨lw_p67, List.forall_mem_cons.mpr ⟨lw_p68, List.forall_mem_cons.mpr ⟨lw_p69, List.forall_mem_cons.mpr ⟨lw_p70, List.forall_mem_cons.mpr ⟨lw_p71, List.forall_mem_cons.mpr ⟨lw_p72, List.forall_mem_cons.mpr ⟨lw_p73, List.forall_mem_cons.mpr ⟨lw_p74, List.forall_mem_cons.mpr ⟨lw_p75, List.forall_mem_cons.mpr ⟨lw_p76, List.forall_mem_cons.mpr ⟨lw_p77, List.forall_mem_cons.mpr ⟨lw_p78, List.forall_mem_cons.mpr ⟨lw_p79, fun _ h => absurd h List.not_mem_nil⟩⟩⟩⟩⟩⟩⟩⟩⟩⟩⟩⟩⟩⟩⟩⟩
theorem lw_p80 : lw_okq (⟨"GoldPlateModel", "laidAt", "(IIII)I"⟩, 70) := ⟨⟨by decide +kernel, by decide +kernel⟩, List.mem_of_getElem? (i := 1128) (by decide +kernel), List.mem_of_getElem? (i := 1609) (by decide +kernel), List.mem_of_getElem? (i := 1610) (by decide +kernel)⟩
theorem lw_p81 : lw_okq (⟨"GoldPlateModel", "isBeat", "(I)Z"⟩, 70) := ⟨⟨by decide +kernel, by decide +kernel⟩, List.mem_of_getElem? (i := 1128) (by decide +kernel), List.mem_of_getElem? (i := 1626) (by decide +kernel), List.mem_of_getElem? (i := 1627) (by decide +kernel)⟩
theorem lw_p82 : lw_okq (⟨"GoldPlateModel", "isThen", "(I)Z"⟩, 70) := ⟨⟨by decide +kernel, by decide +kernel⟩, List.mem_of_getElem? (i := 1128) (by decide +kernel), List.mem_of_getElem? (i := 1639) (by decide +kernel), List.mem_of_getElem? (i := 1640) (by decide +kernel)⟩
theorem lw_p83 : lw_okq (⟨"GoldPlateModel", "toldBy", "(III)I"⟩, 70) := ⟨⟨by decide +kernel, by decide +kernel⟩, List.mem_of_getElem? (i := 1128) (by decide +kernel), List.mem_of_getElem? (i := 1656) (by decide +kernel), List.mem_of_getElem? (i := 1657) (by decide +kernel)⟩
theorem lw_p84 : lw_okq (⟨"GoldPlateModel", "worth", "(IIZ)I"⟩, 70) := ⟨⟨by decide +kernel, by decide +kernel⟩, List.mem_of_getElem? (i := 1128) (by decide +kernel), List.mem_of_getElem? (i := 1664) (by decide +kernel), List.mem_of_getElem? (i := 1665) (by decide +kernel)⟩
theorem lw_p85 : lw_okq (⟨"GoldPlateModel", "costOfSet", "(I)I"⟩, 70) := ⟨⟨by decide +kernel, by decide +kernel⟩, List.mem_of_getElem? (i := 1128) (by decide +kernel), List.mem_of_getElem? (i := 1671) (by decide +kernel), List.mem_of_getElem? (i := 1672) (by decide +kernel)⟩
theorem lw_p86 : lw_okq (⟨"GoldPlateModel", "allMarks", "()I"⟩, 70) := ⟨⟨by decide +kernel, by decide +kernel⟩, List.mem_of_getElem? (i := 1128) (by decide +kernel), List.mem_of_getElem? (i := 1679) (by decide +kernel), List.mem_of_getElem? (i := 1680) (by decide +kernel)⟩
theorem lw_p87 : lw_okq (⟨"GoldPlateModel", "cheapestNow", "()I"⟩, 70) := ⟨⟨by decide +kernel, by decide +kernel⟩, List.mem_of_getElem? (i := 1128) (by decide +kernel), List.mem_of_getElem? (i := 1695) (by decide +kernel), List.mem_of_getElem? (i := 1696) (by decide +kernel)⟩
theorem lw_p88 : lw_okq (⟨"GoldPlateModel", "isOfThis", "(I)Z"⟩, 70) := ⟨⟨by decide +kernel, by decide +kernel⟩, List.mem_of_getElem? (i := 1128) (by decide +kernel), List.mem_of_getElem? (i := 1703) (by decide +kernel), List.mem_of_getElem? (i := 1704) (by decide +kernel)⟩
def lw_privs_6 : List (MethodName × Nat) := [(⟨"GoldPlateModel", "laidAt", "(IIII)I"⟩, 70), (⟨"GoldPlateModel", "isBeat", "(I)Z"⟩, 70), (⟨"GoldPlateModel", "isThen", "(I)Z"⟩, 70), (⟨"GoldPlateModel", "toldBy", "(III)I"⟩, 70), (⟨"GoldPlateModel", "worth", "(IIZ)I"⟩, 70), (⟨"GoldPlateModel", "costOfSet", "(I)I"⟩, 70), (⟨"GoldPlateModel", "allMarks", "()I"⟩, 70), (⟨"GoldPlateModel", "cheapestNow", "()I"⟩, 70), (⟨"GoldPlateModel", "isOfThis", "(I)Z"⟩, 70)]
theorem lw_r6 : ∀ q ∈ lw_privs_6, lw_okq q := List.forall_mem_cons.mpr ⟨lw_p80, List.forall_mem_cons.mpr ⟨lw_p81, List.forall_mem_cons.mpr ⟨lw_p82, List.forall_mem_cons.mpr ⟨lw_p83, List.forall_mem_cons.mpr ⟨lw_p84, List.forall_mem_cons.mpr ⟨lw_p85, List.forall_mem_cons.mpr ⟨lw_p86, List.forall_mem_cons.mpr ⟨lw_p87, List.forall_mem_cons.mpr ⟨lw_p88, fun _ h => absurd h List.not_mem_nil⟩⟩⟩⟩⟩⟩⟩⟩⟩
def lw_privs : List (MethodName × Nat) := lw_privs_1 ++ (lw_privs_2 ++ (lw_privs_3 ++ (lw_privs_4 ++ (lw_privs_5 ++ (lw_privs_6)))))
def lw_tbl : List Cond := k2_sels lw_privs ++ tables_1
theorem lw_privs_ok : ∀ q ∈ lw_privs, lw_okq q := by
  show ∀ q ∈ lw_privs_1 ++ (lw_privs_2 ++ (lw_privs_3 ++ (lw_privs_4 ++ (lw_privs_5 ++ (lw_privs_6))))), lw_okq q
  exact List.forall_mem_append.mpr ⟨lw_r1, List.forall_mem_append.mpr ⟨lw_r2, List.forall_mem_append.mpr ⟨lw_r3, List.forall_mem_append.mpr ⟨lw_r4, List.forall_mem_append.mpr ⟨lw_r5, lw_r6⟩⟩⟩⟩⟩
-- ===== end of PART A; then your names; then what follows =====
end
section
/-! ===== the program as tables: written by wip/whole/gen/gen.py out of the task's printed names and words ===== -/
def gp_on : List String := ["GoldPlate$BitRow", "GoldPlate$Chooser", "GoldPlate$Mark", "GoldPlate$Mind", "GoldPlate$Parser", "GoldPlate$Plate", "GoldPlate$Search", "GoldPlate$Sky", "GoldPlate$Sums", "GoldPlate$Trials", "GoldPlate$Widths", "GoldPlate", "GoldPlateModel", "GoldPlateLaw", "java/lang/Math", "java/lang/Integer", "java/lang/String", "java/lang/StringLatin1", "jdk/internal/util/Preconditions"]
def gp_T0 : u_T := fun k => match k with
  | 0 => ("GoldPlate$BitRow", "bits", "[B", true)
  | _ => ("GoldPlate$BitRow", "size", "I", false)
def gp_t0 : Nat → FieldType := fun k => match k with
  | 0 => .array .byte
  | _ => .int
def gp_T1 : u_T := fun k => match k with
  | 0 => ("GoldPlate$Chooser", "plate", "LGoldPlate$Plate;", true)
  | 1 => ("GoldPlate$Chooser", "minds", "[LGoldPlate$Mind;", true)
  | 2 => ("GoldPlate$Chooser", "able", "[I", true)
  | 3 => ("GoldPlate$Chooser", "rights", "[I", true)
  | 4 => ("GoldPlate$Chooser", "things", "[I", true)
  | 5 => ("GoldPlate$Chooser", "asked", "I", false)
  | 6 => ("GoldPlate$Chooser", "size", "I", false)
  | 7 => ("GoldPlate$Chooser", "budget", "I", false)
  | 8 => ("GoldPlate$Chooser", "worst", "Z", false)
  | 9 => ("GoldPlate$Chooser", "bestCost", "I", false)
  | 10 => ("GoldPlate$Chooser", "bestSet", "I", false)
  | _ => ("GoldPlate$Chooser", "bestScore", "I", false)
def gp_t1 : Nat → FieldType := fun k => match k with
  | 0 => .object "GoldPlate$Plate"
  | 1 => .array (.object "GoldPlate$Mind")
  | 2 => .array .int
  | 3 => .array .int
  | 4 => .array .int
  | 5 => .int
  | 6 => .int
  | 7 => .int
  | 8 => .boolean
  | 9 => .int
  | 10 => .int
  | _ => .int
def gp_T2 : u_T := fun k => match k with
  | 0 => ("GoldPlate$Mark", "kind", "I", false)
  | 1 => ("GoldPlate$Mark", "thing", "I", false)
  | 2 => ("GoldPlate$Mark", "cost", "I", false)
  | 3 => ("GoldPlate$Mark", "depth", "I", false)
  | 4 => ("GoldPlate$Mark", "senses", "I", false)
  | 5 => ("GoldPlate$Mark", "needs", "I", false)
  | 6 => ("GoldPlate$Mark", "knows", "I", false)
  | 7 => ("GoldPlate$Mark", "first", "I", false)
  | _ => ("GoldPlate$Mark", "second", "I", false)
def gp_t2 : Nat → FieldType := fun k => match k with
  | 0 => .int
  | 1 => .int
  | 2 => .int
  | 3 => .int
  | 4 => .int
  | 5 => .int
  | 6 => .int
  | 7 => .int
  | _ => .int
def gp_T3 : u_T := fun k => match k with
  | 0 => ("GoldPlate$Mind", "code", "[I", true)
  | 1 => ("GoldPlate$Mind", "priceFrom", "[I", true)
  | 2 => ("GoldPlate$Mind", "priceWhen", "[I", true)
  | 3 => ("GoldPlate$Mind", "priceTo", "[I", true)
  | 4 => ("GoldPlate$Mind", "senses", "I", false)
  | 5 => ("GoldPlate$Mind", "knows", "I", false)
  | 6 => ("GoldPlate$Mind", "hand", "I", false)
  | 7 => ("GoldPlate$Mind", "lines", "I", false)
  | 8 => ("GoldPlate$Mind", "prices", "I", false)
  | 9 => ("GoldPlate$Mind", "codeSize", "I", false)
  | 10 => ("GoldPlate$Mind", "tryFrom", "I", false)
  | 11 => ("GoldPlate$Mind", "tryTo", "I", false)
  | 12 => ("GoldPlate$Mind", "twinned", "Z", false)
  | _ => ("GoldPlate$Mind", "tries", "Z", false)
def gp_t3 : Nat → FieldType := fun k => match k with
  | 0 => .array .int
  | 1 => .array .int
  | 2 => .array .int
  | 3 => .array .int
  | 4 => .int
  | 5 => .int
  | 6 => .int
  | 7 => .int
  | 8 => .int
  | 9 => .int
  | 10 => .int
  | 11 => .int
  | 12 => .boolean
  | _ => .boolean
def gp_T4 : u_T := fun k => match k with
  | 0 => ("GoldPlate$Parser", "bytes", "[I", true)
  | 1 => ("GoldPlate$Parser", "kinds", "[I", true)
  | 2 => ("GoldPlate$Parser", "numbers", "[I", true)
  | 3 => ("GoldPlate$Parser", "spots", "[I", true)
  | 4 => ("GoldPlate$Parser", "size", "I", false)
  | 5 => ("GoldPlate$Parser", "tokens", "I", false)
  | 6 => ("GoldPlate$Parser", "at", "I", false)
  | 7 => ("GoldPlate$Parser", "fault", "I", false)
  | 8 => ("GoldPlate$Parser", "faultPlace", "I", false)
  | _ => ("GoldPlate$Parser", "draft", "LGoldPlate$Mind;", false)
def gp_t4 : Nat → FieldType := fun k => match k with
  | 0 => .array .int
  | 1 => .array .int
  | 2 => .array .int
  | 3 => .array .int
  | 4 => .int
  | 5 => .int
  | 6 => .int
  | 7 => .int
  | 8 => .int
  | _ => .object "GoldPlate$Mind"
def gp_T5 : u_T := fun k => match k with
  | 0 => ("GoldPlate$Plate", "marks", "[LGoldPlate$Mark;", true)
  | 1 => ("GoldPlate$Plate", "hardness", "[I", true)
  | 2 => ("GoldPlate$Plate", "chains", "[I", true)
  | 3 => ("GoldPlate$Plate", "size", "I", false)
  | _ => ("GoldPlate$Plate", "now", "I", false)
def gp_t5 : Nat → FieldType := fun k => match k with
  | 0 => .array (.object "GoldPlate$Mark")
  | 1 => .array .int
  | 2 => .array .int
  | 3 => .int
  | _ => .int
def gp_T6 : u_T := fun k => match k with
  | 0 => ("GoldPlate$Search", "plate", "LGoldPlate$Plate;", true)
  | 1 => ("GoldPlate$Search", "sums", "LGoldPlate$Sums;", true)
  | 2 => ("GoldPlate$Search", "marks", "[I", true)
  | 3 => ("GoldPlate$Search", "allowed", "[I", true)
  | 4 => ("GoldPlate$Search", "prices", "[I", true)
  | 5 => ("GoldPlate$Search", "floors", "[I", true)
  | 6 => ("GoldPlate$Search", "takings", "[I", true)
  | 7 => ("GoldPlate$Search", "chosen", "[I", true)
  | 8 => ("GoldPlate$Search", "size", "I", false)
  | 9 => ("GoldPlate$Search", "limit", "I", false)
  | 10 => ("GoldPlate$Search", "count", "I", false)
  | 11 => ("GoldPlate$Search", "counting", "Z", false)
  | _ => ("GoldPlate$Search", "cheapestPrice", "I", false)
def gp_t6 : Nat → FieldType := fun k => match k with
  | 0 => .object "GoldPlate$Plate"
  | 1 => .object "GoldPlate$Sums"
  | 2 => .array .int
  | 3 => .array .int
  | 4 => .array .int
  | 5 => .array .int
  | 6 => .array .int
  | 7 => .array .int
  | 8 => .int
  | 9 => .int
  | 10 => .int
  | 11 => .boolean
  | _ => .int
def gp_T7 : u_T := fun k => match k with
  | 0 => ("GoldPlate$Sky", "periods", "[I", true)
  | 1 => ("GoldPlate$Sky", "slowers", "[I", true)
  | 2 => ("GoldPlate$Sky", "columns", "[I", true)
  | 3 => ("GoldPlate$Sky", "rows", "[I", true)
  | 4 => ("GoldPlate$Sky", "from", "[I", true)
  | 5 => ("GoldPlate$Sky", "to", "[I", true)
  | 6 => ("GoldPlate$Sky", "away", "[I", true)
  | 7 => ("GoldPlate$Sky", "size", "I", false)
  | 8 => ("GoldPlate$Sky", "yearCount", "I", false)
  | 9 => ("GoldPlate$Sky", "firstYear", "I", false)
  | 10 => ("GoldPlate$Sky", "lastYear", "I", false)
  | 11 => ("GoldPlate$Sky", "placeCount", "I", false)
  | _ => ("GoldPlate$Sky", "firstPlace", "I", false)
def gp_t7 : Nat → FieldType := fun k => match k with
  | 0 => .array .int
  | 1 => .array .int
  | 2 => .array .int
  | 3 => .array .int
  | 4 => .array .int
  | 5 => .array .int
  | 6 => .array .int
  | 7 => .int
  | 8 => .int
  | 9 => .int
  | 10 => .int
  | 11 => .int
  | _ => .int
def gp_T8 : u_T := fun k => match k with
  | 0 => ("GoldPlate$Sums", "values", "[I", true)
  | 1 => ("GoldPlate$Sums", "stack", "[I", true)
  | _ => ("GoldPlate$Sums", "top", "I", false)
def gp_t8 : Nat → FieldType := fun k => match k with
  | 0 => .array .int
  | 1 => .array .int
  | _ => .int
def gp_T9 : u_T := fun k => match k with
  | 0 => ("GoldPlate$Trials", "rows", "[J", true)
  | 1 => ("GoldPlate$Trials", "sizes", "[I", true)
  | 2 => ("GoldPlate$Trials", "takings", "[I", true)
  | _ => ("GoldPlate$Trials", "size", "I", false)
def gp_t9 : Nat → FieldType := fun k => match k with
  | 0 => .array .long
  | 1 => .array .int
  | 2 => .array .int
  | _ => .int
def gp_T10 : u_T := fun k => match k with
  | 0 => ("GoldPlate$Widths", "widths", "[I", true)
  | 1 => ("GoldPlate$Widths", "ranks", "[I", true)
  | _ => ("GoldPlate$Widths", "count", "I", false)
def gp_t10 : Nat → FieldType := fun k => match k with
  | 0 => .array .int
  | 1 => .array .int
  | _ => .int
def gp_T11 : u_T := fun k => match k with
  | 0 => ("GoldPlate", "plate", "LGoldPlate$Plate;", true)
  | 1 => ("GoldPlate", "minds", "[LGoldPlate$Mind;", true)
  | 2 => ("GoldPlate", "parser", "LGoldPlate$Parser;", true)
  | 3 => ("GoldPlate", "sums", "LGoldPlate$Sums;", true)
  | 4 => ("GoldPlate", "search", "LGoldPlate$Search;", true)
  | 5 => ("GoldPlate", "chooser", "LGoldPlate$Chooser;", true)
  | 6 => ("GoldPlate", "row", "LGoldPlate$BitRow;", true)
  | 7 => ("GoldPlate", "picture", "LGoldPlate$BitRow;", true)
  | 8 => ("GoldPlate", "folds", "LGoldPlate$Widths;", true)
  | 9 => ("GoldPlate", "sky", "LGoldPlate$Sky;", true)
  | 10 => ("GoldPlate", "trials", "LGoldPlate$Trials;", true)
  | 11 => ("GoldPlate", "message", "J", false)
  | _ => ("GoldPlate", "messageSize", "I", false)
def gp_t11 : Nat → FieldType := fun k => match k with
  | 0 => .object "GoldPlate$Plate"
  | 1 => .array (.object "GoldPlate$Mind")
  | 2 => .object "GoldPlate$Parser"
  | 3 => .object "GoldPlate$Sums"
  | 4 => .object "GoldPlate$Search"
  | 5 => .object "GoldPlate$Chooser"
  | 6 => .object "GoldPlate$BitRow"
  | 7 => .object "GoldPlate$BitRow"
  | 8 => .object "GoldPlate$Widths"
  | 9 => .object "GoldPlate$Sky"
  | 10 => .object "GoldPlate$Trials"
  | 11 => .long
  | _ => .int
def gp_T12 : u_T := fun k => match k with
  | 0 => ("GoldPlateModel", "marks", "I", false)
  | 1 => ("GoldPlateModel", "year", "I", false)
  | 2 => ("GoldPlateModel", "messageLong", "I", false)
  | 3 => ("GoldPlateModel", "kindOf", "[I", true)
  | 4 => ("GoldPlateModel", "thingOf", "[I", true)
  | 5 => ("GoldPlateModel", "costOf", "[I", true)
  | 6 => ("GoldPlateModel", "depthOf", "[I", true)
  | 7 => ("GoldPlateModel", "sensesOf", "[I", true)
  | 8 => ("GoldPlateModel", "needsOf", "[I", true)
  | 9 => ("GoldPlateModel", "knowsOf", "[I", true)
  | 10 => ("GoldPlateModel", "other", "[I", true)
  | 11 => ("GoldPlateModel", "hard", "[I", true)
  | 12 => ("GoldPlateModel", "message", "[I", true)
  | 13 => ("GoldPlateModel", "deeper", "I", false)
  | 14 => ("GoldPlateModel", "when", "I", false)
  | 15 => ("GoldPlateModel", "chains", "[I", true)
  | 16 => ("GoldPlateModel", "sensesHad", "[I", true)
  | 17 => ("GoldPlateModel", "factsHad", "[I", true)
  | 18 => ("GoldPlateModel", "hand", "[I", true)
  | 19 => ("GoldPlateModel", "priceMany", "[I", true)
  | 20 => ("GoldPlateModel", "lineMany", "[I", true)
  | 21 => ("GoldPlateModel", "tryFrom", "[I", true)
  | 22 => ("GoldPlateModel", "tryTo", "[I", true)
  | 23 => ("GoldPlateModel", "priceFrom", "[I", true)
  | 24 => ("GoldPlateModel", "priceTo", "[I", true)
  | 25 => ("GoldPlateModel", "whenTo", "[I", true)
  | 26 => ("GoldPlateModel", "step", "[I", true)
  | 27 => ("GoldPlateModel", "tape", "[I", true)
  | 28 => ("GoldPlateModel", "pile", "[I", true)
  | 29 => ("GoldPlateModel", "facts", "[I", true)
  | 30 => ("GoldPlateModel", "hasTwin", "[Z", true)
  | 31 => ("GoldPlateModel", "hasTry", "[Z", true)
  | 32 => ("GoldPlateModel", "steps", "I", false)
  | 33 => ("GoldPlateModel", "taped", "I", false)
  | 34 => ("GoldPlateModel", "at", "I", false)
  | 35 => ("GoldPlateModel", "token", "I", false)
  | 36 => ("GoldPlateModel", "tokenAt", "I", false)
  | 37 => ("GoldPlateModel", "value", "I", false)
  | 38 => ("GoldPlateModel", "wrong", "I", false)
  | 39 => ("GoldPlateModel", "wrongAt", "I", false)
  | 40 => ("GoldPlateModel", "faultKind", "I", false)
  | 41 => ("GoldPlateModel", "depth", "I", false)
  | 42 => ("GoldPlateModel", "faultPlace", "I", false)
  | 43 => ("GoldPlateModel", "priceOf", "[I", true)
  | 44 => ("GoldPlateModel", "taking", "[I", true)
  | 45 => ("GoldPlateModel", "cheapest", "[I", true)
  | 46 => ("GoldPlateModel", "reader", "I", false)
  | 47 => ("GoldPlateModel", "bound", "I", false)
  | 48 => ("GoldPlateModel", "found", "I", false)
  | 49 => ("GoldPlateModel", "leastPrice", "I", false)
  | 50 => ("GoldPlateModel", "bitMany", "I", false)
  | 51 => ("GoldPlateModel", "gridMany", "I", false)
  | 52 => ("GoldPlateModel", "bit", "[I", true)
  | 53 => ("GoldPlateModel", "gridBit", "[I", true)
  | 54 => ("GoldPlateModel", "widths", "[I", true)
  | 55 => ("GoldPlateModel", "tryOf", "[I", true)
  | 56 => ("GoldPlateModel", "widthMany", "I", false)
  | 57 => ("GoldPlateModel", "beats", "I", false)
  | 58 => ("GoldPlateModel", "period", "[I", true)
  | 59 => ("GoldPlateModel", "slower", "[I", true)
  | 60 => ("GoldPlateModel", "beatX", "[I", true)
  | 61 => ("GoldPlateModel", "beatY", "[I", true)
  | 62 => ("GoldPlateModel", "foundFrom", "[I", true)
  | 63 => ("GoldPlateModel", "foundTo", "[I", true)
  | 64 => ("GoldPlateModel", "farOf", "[I", true)
  | 65 => ("GoldPlateModel", "trials", "I", false)
  | 66 => ("GoldPlateModel", "trialLong", "[I", true)
  | 67 => ("GoldPlateModel", "trialMark", "[I", true)
  | 68 => ("GoldPlateModel", "trialTaking", "[I", true)
  | _ => ("GoldPlateModel", "kept", "[I", true)
def gp_t12 : Nat → FieldType := fun k => match k with
  | 0 => .int
  | 1 => .int
  | 2 => .int
  | 3 => .array .int
  | 4 => .array .int
  | 5 => .array .int
  | 6 => .array .int
  | 7 => .array .int
  | 8 => .array .int
  | 9 => .array .int
  | 10 => .array .int
  | 11 => .array .int
  | 12 => .array .int
  | 13 => .int
  | 14 => .int
  | 15 => .array .int
  | 16 => .array .int
  | 17 => .array .int
  | 18 => .array .int
  | 19 => .array .int
  | 20 => .array .int
  | 21 => .array .int
  | 22 => .array .int
  | 23 => .array .int
  | 24 => .array .int
  | 25 => .array .int
  | 26 => .array .int
  | 27 => .array .int
  | 28 => .array .int
  | 29 => .array .int
  | 30 => .array .boolean
  | 31 => .array .boolean
  | 32 => .int
  | 33 => .int
  | 34 => .int
  | 35 => .int
  | 36 => .int
  | 37 => .int
  | 38 => .int
  | 39 => .int
  | 40 => .int
  | 41 => .int
  | 42 => .int
  | 43 => .array .int
  | 44 => .array .int
  | 45 => .array .int
  | 46 => .int
  | 47 => .int
  | 48 => .int
  | 49 => .int
  | 50 => .int
  | 51 => .int
  | 52 => .array .int
  | 53 => .array .int
  | 54 => .array .int
  | 55 => .array .int
  | 56 => .int
  | 57 => .int
  | 58 => .array .int
  | 59 => .array .int
  | 60 => .array .int
  | 61 => .array .int
  | 62 => .array .int
  | 63 => .array .int
  | 64 => .array .int
  | 65 => .int
  | 66 => .array .int
  | 67 => .array .int
  | 68 => .array .int
  | _ => .array .int
abbrev gp_cl : List vw_C := [("GoldPlate$BitRow", gp_T0, 2), ("GoldPlate$Chooser", gp_T1, 12), ("GoldPlate$Mark", gp_T2, 9), ("GoldPlate$Mind", gp_T3, 14), ("GoldPlate$Parser", gp_T4, 10), ("GoldPlate$Plate", gp_T5, 5), ("GoldPlate$Search", gp_T6, 13), ("GoldPlate$Sky", gp_T7, 13), ("GoldPlate$Sums", gp_T8, 3), ("GoldPlate$Trials", gp_T9, 4), ("GoldPlate$Widths", gp_T10, 3), ("GoldPlate", gp_T11, 13), ("GoldPlateModel", gp_T12, 70)]
abbrev gp_tyl : List (Nat → FieldType) := [gp_t0, gp_t1, gp_t2, gp_t3, gp_t4, gp_t5, gp_t6, gp_t7, gp_t8, gp_t9, gp_t10, gp_t11, gp_t12]
def gp_df : Nat → List Value := fun k => match k with
  | 0 => [.null, .int 0]
  | 1 => [.null, .null, .null, .null, .null, .int 0, .int 0, .int 0, .int 0, .int 0, .int 0, .int 0]
  | 2 => [.int 0, .int 0, .int 0, .int 0, .int 0, .int 0, .int 0, .int 0, .int 0]
  | 3 => [.null, .null, .null, .null, .int 0, .int 0, .int 0, .int 0, .int 0, .int 0, .int 0, .int 0, .int 0, .int 0]
  | 4 => [.null, .null, .null, .null, .int 0, .int 0, .int 0, .int 0, .int 0, .null]
  | 5 => [.null, .null, .null, .int 0, .int 0]
  | 6 => [.null, .null, .null, .null, .null, .null, .null, .null, .int 0, .int 0, .int 0, .int 0, .int 0]
  | 7 => [.null, .null, .null, .null, .null, .null, .null, .int 0, .int 0, .int 0, .int 0, .int 0, .int 0]
  | 8 => [.null, .null, .int 0]
  | 9 => [.null, .null, .null, .int 0]
  | 10 => [.null, .null, .int 0]
  | 11 => [.null, .null, .null, .null, .null, .null, .null, .null, .null, .null, .null, .long 0, .int 0]
  | 12 => [.int 0, .int 0, .int 0, .null, .null, .null, .null, .null, .null, .null, .null, .null, .null, .int 0, .int 0, .null, .null, .null, .null, .null, .null, .null, .null, .null, .null, .null, .null, .null, .null, .null, .null, .null, .int 0, .int 0, .int 0, .int 0, .int 0, .int 0, .int 0, .int 0, .int 0, .int 0, .int 0, .null, .null, .null, .int 0, .int 0, .int 0, .int 0, .int 0, .int 0, .null, .null, .null, .null, .int 0, .int 0, .null, .null, .null, .null, .null, .null, .null, .int 0, .null, .null, .null, .null]
  | _ => []
abbrev gp_M : Type := MethodName × ByteArray × Nat × Option FieldType × Nat × Nat × Nat × Nat × List (Nat × Instr × Nat)
def cd_Br_init : List (Nat × Instr × Nat) := [(0, .aload_n 0, 1), (1, .invokespecial 3, 3), (4, .aload_n 0, 1), (5, .sipush 400, 3), (8, .newarray .byte, 2), (10, .putfield 11, 3), (13, .return_, 1)]
def m_Br_init : gp_M := (⟨"GoldPlate$BitRow", "<init>", "()V"⟩, prog_2_method_1_code, 1, none, 1, 400, 0, 0, cd_Br_init)
def cd_Br_append : List (Nat × Instr × Nat) := [(0, .iload_n 2, 1), (1, .ifCond .lt 21, 3), (4, .iload_n 2, 1), (5, .bipush 32, 2), (7, .if_icmp .gt 15, 3), (10, .aload_n 0, 1), (11, .getfield 15, 3), (14, .iload_n 2, 1), (15, .iadd, 1), (16, .sipush 400, 3), (19, .if_icmp .le 5, 3), (22, .iconst (-1), 1), (23, .ireturn, 1), (24, .iload_n 2, 1), (25, .ifCond .ne 8, 3), (28, .aload_n 0, 1), (29, .iconst 0, 1), (30, .putfield 15, 3), (33, .iload_n 2, 1), (34, .iconst 1, 1), (35, .isub, 1), (36, .istore_n 3, 1), (37, .iload_n 3, 1), (38, .ifCond .lt 34, 3), (41, .aload_n 0, 1), (42, .getfield 11, 3), (45, .aload_n 0, 1), (46, .getfield 15, 3), (49, .iload_n 1, 1), (50, .iload_n 3, 1), (51, .ishr, 1), (52, .iconst 1, 1), (53, .iand, 1), (54, .i2b, 1), (55, .bastore, 1), (56, .aload_n 0, 1), (57, .dup, 1), (58, .getfield 15, 3), (61, .iconst 1, 1), (62, .iadd, 1), (63, .putfield 15, 3), (66, .iinc 3 (-1), 3), (69, .goto (-32), 3), (72, .aload_n 0, 1), (73, .getfield 15, 3), (76, .ireturn, 1)]
def m_Br_append : gp_M := (⟨"GoldPlate$BitRow", "append", "(II)I"⟩, prog_2_method_2_code, 4, (some .int), 0, 0, 0, 2, cd_Br_append)
def cd_Br_foldsBy : List (Nat × Instr × Nat) := [(0, .iload_n 1, 1), (1, .iconst 2, 1), (2, .if_icmp .lt 26, 3), (5, .iload_n 1, 1), (6, .aload_n 0, 1), (7, .getfield 15, 3), (10, .iconst 2, 1), (11, .idiv, 1), (12, .if_icmp .gt 16, 3), (15, .aload_n 0, 1), (16, .getfield 15, 3), (19, .iload_n 1, 1), (20, .irem, 1), (21, .ifCond .ne 7, 3), (24, .iconst 1, 1), (25, .goto 4, 3), (28, .iconst 0, 1), (29, .ireturn, 1)]
def m_Br_foldsBy : gp_M := (⟨"GoldPlate$BitRow", "foldsBy", "(I)Z"⟩, prog_2_method_3_code, 2, (some .boolean), 0, 0, 0, 1, cd_Br_foldsBy)
def cd_Br_edges : List (Nat × Instr × Nat) := [(0, .iconst 0, 1), (1, .istore_n 2, 1), (2, .iconst 0, 1), (3, .istore_n 3, 1), (4, .iconst 0, 1), (5, .istore 4, 2), (7, .iload 4, 2), (9, .aload_n 0, 1), (10, .getfield 15, 3), (13, .if_icmp .ge 90, 3), (16, .iinc 3 1, 3), (19, .iload_n 3, 1), (20, .iload_n 1, 1), (21, .if_icmp .ge 36, 3), (24, .iload 4, 2), (26, .iconst 1, 1), (27, .iadd, 1), (28, .aload_n 0, 1), (29, .getfield 15, 3), (32, .if_icmp .ge 25, 3), (35, .aload_n 0, 1), (36, .getfield 11, 3), (39, .iload 4, 2), (41, .baload, 1), (42, .aload_n 0, 1), (43, .getfield 11, 3), (46, .iload 4, 2), (48, .iconst 1, 1), (49, .iadd, 1), (50, .baload, 1), (51, .if_icmp .eq 6, 3), (54, .iinc 2 1, 3), (57, .iload_n 3, 1), (58, .iload_n 1, 1), (59, .if_icmp .lt 5, 3), (62, .iconst 0, 1), (63, .istore_n 3, 1), (64, .iload 4, 2), (66, .iload_n 1, 1), (67, .iadd, 1), (68, .aload_n 0, 1), (69, .getfield 15, 3), (72, .if_icmp .ge 25, 3), (75, .aload_n 0, 1), (76, .getfield 11, 3), (79, .iload 4, 2), (81, .baload, 1), (82, .aload_n 0, 1), (83, .getfield 11, 3), (86, .iload 4, 2), (88, .iload_n 1, 1), (89, .iadd, 1), (90, .baload, 1), (91, .if_icmp .eq 6, 3), (94, .iinc 2 1, 3), (97, .iinc 4 1, 3), (100, .goto (-93), 3), (103, .iload_n 2, 1), (104, .ireturn, 1)]
def m_Br_edges : gp_M := (⟨"GoldPlate$BitRow", "edges", "(I)I"⟩, prog_2_method_4_code, 5, (some .int), 0, 0, 0, 1, cd_Br_edges)
def cd_Br_placeOf : List (Nat × Instr × Nat) := [(0, .iload_n 0, 1), (1, .iload_n 1, 1), (2, .imul, 1), (3, .iload_n 3, 1), (4, .iconst 1, 1), (5, .if_icmp .ne 11, 3), (8, .iload_n 0, 1), (9, .iconst 1, 1), (10, .isub, 1), (11, .iload_n 2, 1), (12, .isub, 1), (13, .goto 4, 3), (16, .iload_n 2, 1), (17, .iadd, 1), (18, .ireturn, 1)]
def m_Br_placeOf : gp_M := (⟨"GoldPlate$BitRow", "placeOf", "(IIII)I"⟩, prog_2_method_5_code, 4, (some .int), 0, 0, 0, 4, cd_Br_placeOf)
def cd_Br_agreements : List (Nat × Instr × Nat) := [(0, .iconst 0, 1), (1, .istore 4, 2), (3, .iconst 0, 1), (4, .istore 5, 2), (6, .iload 5, 2), (8, .aload_n 0, 1), (9, .iload_n 2, 1), (10, .invokevirtual 19, 3), (13, .if_icmp .ge 56, 3), (16, .iconst 0, 1), (17, .istore 6, 2), (19, .iload 6, 2), (21, .iload_n 2, 1), (22, .if_icmp .ge 41, 3), (25, .aload_n 0, 1), (26, .getfield 11, 3), (29, .iload_n 2, 1), (30, .iload 5, 2), (32, .iload 6, 2), (34, .iload_n 3, 1), (35, .invokestatic 23, 3), (38, .baload, 1), (39, .aload_n 1, 1), (40, .getfield 11, 3), (43, .iload_n 2, 1), (44, .iload 5, 2), (46, .imul, 1), (47, .iload 6, 2), (49, .iadd, 1), (50, .baload, 1), (51, .if_icmp .ne 6, 3), (54, .iinc 4 1, 3), (57, .iinc 6 1, 3), (60, .goto (-41), 3), (63, .iinc 5 1, 3), (66, .goto (-60), 3), (69, .iload 4, 2), (71, .ireturn, 1)]
def m_Br_agreements : gp_M := (⟨"GoldPlate$BitRow", "agreements", "(LGoldPlate$BitRow;II)I"⟩, prog_2_method_6_code, 7, (some .int), 0, 0, 0, 3, cd_Br_agreements)
def cd_Br_isHalf : List (Nat × Instr × Nat) := [(0, .aload_n 0, 1), (1, .iload_n 2, 1), (2, .invokevirtual 19, 3), (5, .istore 4, 2), (7, .iconst 0, 1), (8, .istore 5, 2), (10, .iload 5, 2), (12, .iload 4, 2), (14, .if_icmp .ge 56, 3), (17, .iconst 0, 1), (18, .istore 6, 2), (20, .iload 6, 2), (22, .iload_n 2, 1), (23, .if_icmp .ge 41, 3), (26, .aload_n 0, 1), (27, .getfield 11, 3), (30, .iload_n 2, 1), (31, .iload 5, 2), (33, .iload 6, 2), (35, .iload_n 3, 1), (36, .invokestatic 23, 3), (39, .baload, 1), (40, .aload_n 1, 1), (41, .getfield 11, 3), (44, .iload 4, 2), (46, .iload 6, 2), (48, .imul, 1), (49, .iload 5, 2), (51, .iadd, 1), (52, .baload, 1), (53, .if_icmp .eq 5, 3), (56, .iconst 0, 1), (57, .ireturn, 1), (58, .iinc 6 1, 3), (61, .goto (-41), 3), (64, .iinc 5 1, 3), (67, .goto (-57), 3), (70, .iconst 1, 1), (71, .ireturn, 1)]
def m_Br_isHalf : gp_M := (⟨"GoldPlate$BitRow", "isHalf", "(LGoldPlate$BitRow;II)Z"⟩, prog_2_method_7_code, 7, (some .boolean), 0, 0, 0, 3, cd_Br_isHalf)
def cd_Br_heightFor : List (Nat × Instr × Nat) := [(0, .iload_n 1, 1), (1, .ifCond .le 12, 3), (4, .aload_n 0, 1), (5, .getfield 15, 3), (8, .iload_n 1, 1), (9, .idiv, 1), (10, .goto 4, 3), (13, .iconst 0, 1), (14, .ireturn, 1)]
def m_Br_heightFor : gp_M := (⟨"GoldPlate$BitRow", "heightFor", "(I)I"⟩, prog_2_method_8_code, 2, (some .int), 0, 0, 0, 1, cd_Br_heightFor)
def cd_Ch_init : List (Nat × Instr × Nat) := [(0, .aload_n 0, 1), (1, .invokespecial 3, 3), (4, .aload_n 0, 1), (5, .bipush 6, 2), (7, .newarray .int, 2), (9, .putfield 9, 3), (12, .aload_n 0, 1), (13, .bipush 78, 2), (15, .newarray .int, 2), (17, .putfield 15, 3), (20, .aload_n 0, 1), (21, .bipush 78, 2), (23, .newarray .int, 2), (25, .putfield 18, 3), (28, .aload_n 0, 1), (29, .aload_n 1, 1), (30, .putfield 21, 3), (33, .aload_n 0, 1), (34, .aload_n 2, 1), (35, .putfield 25, 3), (38, .return_, 1)]
def m_Ch_init : gp_M := (⟨"GoldPlate$Chooser", "<init>", "(LGoldPlate$Plate;[LGoldPlate$Mind;)V"⟩, prog_3_method_1_code, 3, none, 3, 162, 1, 2, cd_Ch_init)
def cd_Ch_findBest : List (Nat × Instr × Nat) := [(0, .aload_n 0, 1), (1, .aload_n 0, 1), (2, .getfield 21, 3), (5, .getfield 29, 3), (8, .bipush 12, 2), (10, .invokestatic 35, 3), (13, .putfield 41, 3), (16, .aload_n 0, 1), (17, .iload_n 1, 1), (18, .putfield 42, 3), (21, .aload_n 0, 1), (22, .iload_n 3, 1), (23, .putfield 45, 3), (26, .aload_n 0, 1), (27, .iconst 0, 1), (28, .putfield 49, 3), (31, .aload_n 0, 1), (32, .iconst 0, 1), (33, .putfield 52, 3), (36, .aload_n 0, 1), (37, .iconst (-1), 1), (38, .putfield 55, 3), (41, .aload_n 0, 1), (42, .iconst 0, 1), (43, .putfield 58, 3), (46, .iconst 0, 1), (47, .istore 4, 2), (49, .iload 4, 2), (51, .bipush 6, 2), (53, .if_icmp .ge 69, 3), (56, .iload_n 2, 1), (57, .iload 4, 2), (59, .ishr, 1), (60, .iconst 1, 1), (61, .iand, 1), (62, .iconst 1, 1), (63, .if_icmp .ne 53, 3), (66, .aload_n 0, 1), (67, .getfield 9, 3), (70, .aload_n 0, 1), (71, .getfield 58, 3), (74, .aload_n 0, 1), (75, .aload_n 0, 1), (76, .getfield 25, 3), (79, .iload 4, 2), (81, .aaload, 1), (82, .invokevirtual 61, 3), (85, .iastore, 1), (86, .aload_n 0, 1), (87, .getfield 15, 3), (90, .aload_n 0, 1), (91, .getfield 58, 3), (94, .iconst 0, 1), (95, .iastore, 1), (96, .aload_n 0, 1), (97, .getfield 18, 3), (100, .aload_n 0, 1), (101, .getfield 58, 3), (104, .iconst 0, 1), (105, .iastore, 1), (106, .aload_n 0, 1), (107, .dup, 1), (108, .getfield 58, 3), (111, .iconst 1, 1), (112, .iadd, 1), (113, .putfield 58, 3), (116, .iinc 4 1, 3), (119, .goto (-70), 3), (122, .aload_n 0, 1), (123, .iconst 0, 1), (124, .iconst 0, 1), (125, .iconst 0, 1), (126, .iconst 0, 1), (127, .invokevirtual 65, 3), (130, .return_, 1)]
def m_Ch_findBest : gp_M := (⟨"GoldPlate$Chooser", "findBest", "(IIZ)V"⟩, prog_3_method_2_code, 5, none, 0, 0, 1, 3, cd_Ch_findBest)
def cd_Ch_ableMarks : List (Nat × Instr × Nat) := [(0, .iconst 0, 1), (1, .istore_n 2, 1), (2, .iconst 0, 1), (3, .istore_n 3, 1), (4, .iload_n 3, 1), (5, .aload_n 0, 1), (6, .getfield 41, 3), (9, .if_icmp .ge 35, 3), (12, .aload_n 0, 1), (13, .getfield 21, 3), (16, .aload_n 1, 1), (17, .iload_n 3, 1), (18, .aload_n 0, 1), (19, .getfield 21, 3), (22, .getfield 69, 3), (25, .iconst (-1), 1), (26, .invokevirtual 72, 3), (29, .ifCond .eq 9, 3), (32, .iload_n 2, 1), (33, .iconst 1, 1), (34, .iload_n 3, 1), (35, .ishl, 1), (36, .ior, 1), (37, .istore_n 2, 1), (38, .iinc 3 1, 3), (41, .goto (-37), 3), (44, .iload_n 2, 1), (45, .ireturn, 1)]
def m_Ch_ableMarks : gp_M := (⟨"GoldPlate$Chooser", "ableMarks", "(LGoldPlate$Mind;)I"⟩, prog_3_method_3_code, 4, (some .int), 0, 0, 1, 1, cd_Ch_ableMarks)
def cd_Ch_grow : List (Nat × Instr × Nat) := [(0, .aload_n 0, 1), (1, .iload_n 1, 1), (2, .iload_n 3, 1), (3, .iload 4, 2), (5, .invokevirtual 76, 3), (8, .iload_n 2, 1), (9, .istore 5, 2), (11, .iload 5, 2), (13, .aload_n 0, 1), (14, .getfield 41, 3), (17, .if_icmp .ge 71, 3), (20, .iload_n 1, 1), (21, .bipush 12, 2), (23, .if_icmp .ge 65, 3), (26, .iload 4, 2), (28, .aload_n 0, 1), (29, .getfield 21, 3), (32, .getfield 80, 3), (35, .iload 5, 2), (37, .aaload, 1), (38, .getfield 84, 3), (41, .iadd, 1), (42, .istore 6, 2), (44, .iload 6, 2), (46, .aload_n 0, 1), (47, .getfield 42, 3), (50, .if_icmp .gt 32, 3), (53, .aload_n 0, 1), (54, .iload_n 1, 1), (55, .iload 5, 2), (57, .invokevirtual 89, 3), (60, .ifCond .eq 22, 3), (63, .aload_n 0, 1), (64, .iload_n 1, 1), (65, .iconst 1, 1), (66, .iadd, 1), (67, .iload 5, 2), (69, .iconst 1, 1), (70, .iadd, 1), (71, .iload_n 3, 1), (72, .iconst 1, 1), (73, .iload 5, 2), (75, .ishl, 1), (76, .ior, 1), (77, .iload 6, 2), (79, .invokevirtual 65, 3), (82, .iinc 5 1, 3), (85, .goto (-74), 3), (88, .return_, 1)]
def m_Ch_grow : gp_M := (⟨"GoldPlate$Chooser", "grow", "(IIII)V"⟩, prog_3_method_4_code, 7, none, 0, 0, 1, 4, cd_Ch_grow)
def cd_Ch_gains : List (Nat × Instr × Nat) := [(0, .aload_n 0, 1), (1, .getfield 21, 3), (4, .getfield 80, 3), (7, .iload_n 2, 1), (8, .aaload, 1), (9, .astore_n 3, 1), (10, .iconst 0, 1), (11, .istore 4, 2), (13, .iconst 0, 1), (14, .istore 5, 2), (16, .iload 5, 2), (18, .aload_n 0, 1), (19, .getfield 58, 3), (22, .if_icmp .ge 128, 3), (25, .iload_n 1, 1), (26, .bipush 6, 2), (28, .imul, 1), (29, .iload 5, 2), (31, .iadd, 1), (32, .istore 6, 2), (34, .iload 6, 2), (36, .bipush 6, 2), (38, .iadd, 1), (39, .istore 7, 2), (41, .aload_n 0, 1), (42, .getfield 9, 3), (45, .iload 5, 2), (47, .iaload, 1), (48, .iload_n 2, 1), (49, .ishr, 1), (50, .iconst 1, 1), (51, .iand, 1), (52, .iconst 1, 1), (53, .if_icmp .ne 24, 3), (56, .aload_n 3, 1), (57, .getfield 93, 3), (60, .aload_n 0, 1), (61, .getfield 15, 3), (64, .iload 6, 2), (66, .iaload, 1), (67, .iconst (-1), 1), (68, .ixor, 1), (69, .iand, 1), (70, .ifCond .ne 7, 3), (73, .iconst 1, 1), (74, .goto 4, 3), (77, .iconst 0, 1), (78, .istore 8, 2), (80, .aload_n 0, 1), (81, .getfield 15, 3), (84, .iload 7, 2), (86, .aload_n 0, 1), (87, .getfield 15, 3), (90, .iload 6, 2), (92, .iaload, 1), (93, .iload 8, 2), (95, .ifCond .eq 9, 3), (98, .iconst 1, 1), (99, .iload_n 2, 1), (100, .ishl, 1), (101, .goto 4, 3), (104, .iconst 0, 1), (105, .ior, 1), (106, .iastore, 1), (107, .aload_n 0, 1), (108, .getfield 18, 3), (111, .iload 7, 2), (113, .aload_n 0, 1), (114, .getfield 18, 3), (117, .iload 6, 2), (119, .iaload, 1), (120, .iload 8, 2), (122, .ifCond .eq 12, 3), (125, .iconst 1, 1), (126, .aload_n 3, 1), (127, .getfield 96, 3), (130, .ishl, 1), (131, .goto 4, 3), (134, .iconst 0, 1), (135, .ior, 1), (136, .iastore, 1), (137, .iload 4, 2), (139, .iload 8, 2), (141, .ior, 1), (142, .istore 4, 2), (144, .iinc 5 1, 3), (147, .goto (-131), 3), (150, .iload 4, 2), (152, .ireturn, 1)]
def m_Ch_gains : gp_M := (⟨"GoldPlate$Chooser", "gains", "(II)Z"⟩, prog_3_method_5_code, 9, (some .boolean), 0, 0, 1, 2, cd_Ch_gains)
def cd_Ch_judge : List (Nat × Instr × Nat) := [(0, .aload_n 0, 1), (1, .iload_n 1, 1), (2, .invokevirtual 99, 3), (5, .istore 4, 2), (7, .iload 4, 2), (9, .aload_n 0, 1), (10, .getfield 55, 3), (13, .if_icmp .gt 36, 3), (16, .iload 4, 2), (18, .aload_n 0, 1), (19, .getfield 55, 3), (22, .if_icmp .ne 31, 3), (25, .iload_n 3, 1), (26, .aload_n 0, 1), (27, .getfield 52, 3), (30, .if_icmp .lt 19, 3), (33, .iload_n 3, 1), (34, .aload_n 0, 1), (35, .getfield 52, 3), (38, .if_icmp .ne 15, 3), (41, .iload_n 2, 1), (42, .aload_n 0, 1), (43, .getfield 49, 3), (46, .if_icmp .ge 7, 3), (49, .iconst 1, 1), (50, .goto 4, 3), (53, .iconst 0, 1), (54, .istore 5, 2), (56, .iload 5, 2), (58, .ifCond .eq 19, 3), (61, .aload_n 0, 1), (62, .iload 4, 2), (64, .putfield 55, 3), (67, .aload_n 0, 1), (68, .iload_n 3, 1), (69, .putfield 52, 3), (72, .aload_n 0, 1), (73, .iload_n 2, 1), (74, .putfield 49, 3), (77, .return_, 1)]
def m_Ch_judge : gp_M := (⟨"GoldPlate$Chooser", "judge", "(III)V"⟩, prog_3_method_6_code, 6, none, 0, 0, 1, 3, cd_Ch_judge)
def cd_Ch_scoreOf : List (Nat × Instr × Nat) := [(0, .iconst 0, 1), (1, .istore_n 2, 1), (2, .bipush 16, 2), (4, .istore_n 3, 1), (5, .iconst 0, 1), (6, .istore 4, 2), (8, .iload 4, 2), (10, .aload_n 0, 1), (11, .getfield 58, 3), (14, .if_icmp .ge 38, 3), (17, .aload_n 0, 1), (18, .getfield 18, 3), (21, .iload_n 1, 1), (22, .bipush 6, 2), (24, .imul, 1), (25, .iload 4, 2), (27, .iadd, 1), (28, .iaload, 1), (29, .invokestatic 103, 3), (32, .istore 5, 2), (34, .iload_n 2, 1), (35, .iload 5, 2), (37, .iadd, 1), (38, .istore_n 2, 1), (39, .iload_n 3, 1), (40, .iload 5, 2), (42, .invokestatic 35, 3), (45, .istore_n 3, 1), (46, .iinc 4 1, 3), (49, .goto (-41), 3), (52, .aload_n 0, 1), (53, .getfield 45, 3), (56, .ifCond .eq 7, 3), (59, .iload_n 3, 1), (60, .goto 4, 3), (63, .iload_n 2, 1), (64, .ireturn, 1)]
def m_Ch_scoreOf : gp_M := (⟨"GoldPlate$Chooser", "scoreOf", "(I)I"⟩, prog_3_method_7_code, 6, (some .int), 0, 0, 1, 1, cd_Ch_scoreOf)
def cd_Mk_init : List (Nat × Instr × Nat) := [(0, .aload_n 0, 1), (1, .invokespecial 3, 3), (4, .aload_n 0, 1), (5, .iconst (-1), 1), (6, .putfield 9, 3), (9, .aload_n 0, 1), (10, .iconst (-1), 1), (11, .putfield 15, 3), (14, .return_, 1)]
def m_Mk_init : gp_M := (⟨"GoldPlate$Mark", "<init>", "()V"⟩, prog_4_method_1_code, 1, none, 0, 0, 2, 0, cd_Mk_init)
def cd_Mk_takenFor : List (Nat × Instr × Nat) := [(0, .iload_n 1, 1), (1, .iconst 1, 1), (2, .if_icmp .ne 8, 3), (5, .aload_n 0, 1), (6, .getfield 18, 3), (9, .ireturn, 1), (10, .iload_n 1, 1), (11, .iconst 2, 1), (12, .if_icmp .ne 10, 3), (15, .aload_n 0, 1), (16, .getfield 9, 3), (19, .goto 7, 3), (22, .aload_n 0, 1), (23, .getfield 15, 3), (26, .ireturn, 1)]
def m_Mk_takenFor : gp_M := (⟨"GoldPlate$Mark", "takenFor", "(I)I"⟩, prog_4_method_2_code, 2, (some .int), 0, 0, 2, 1, cd_Mk_takenFor)
def cd_Mi_init : List (Nat × Instr × Nat) := [(0, .aload_n 0, 1), (1, .invokespecial 3, 3), (4, .aload_n 0, 1), (5, .sipush 500, 3), (8, .newarray .int, 2), (10, .putfield 9, 3), (13, .aload_n 0, 1), (14, .bipush 16, 2), (16, .newarray .int, 2), (18, .putfield 15, 3), (21, .aload_n 0, 1), (22, .bipush 16, 2), (24, .newarray .int, 2), (26, .putfield 18, 3), (29, .aload_n 0, 1), (30, .bipush 16, 2), (32, .newarray .int, 2), (34, .putfield 21, 3), (37, .return_, 1)]
def m_Mi_init : gp_M := (⟨"GoldPlate$Mind", "<init>", "()V"⟩, prog_5_method_1_code, 1, none, 4, 548, 3, 0, cd_Mi_init)
def cd_Mi_clear : List (Nat × Instr × Nat) := [(0, .aload_n 0, 1), (1, .iconst 0, 1), (2, .putfield 24, 3), (5, .aload_n 0, 1), (6, .iconst 0, 1), (7, .putfield 28, 3), (10, .aload_n 0, 1), (11, .iconst 0, 1), (12, .putfield 31, 3), (15, .aload_n 0, 1), (16, .iconst 0, 1), (17, .putfield 34, 3), (20, .aload_n 0, 1), (21, .iconst 0, 1), (22, .putfield 37, 3), (25, .aload_n 0, 1), (26, .iconst 0, 1), (27, .putfield 40, 3), (30, .aload_n 0, 1), (31, .iconst 0, 1), (32, .putfield 43, 3), (35, .aload_n 0, 1), (36, .iconst 0, 1), (37, .putfield 46, 3), (40, .aload_n 0, 1), (41, .iconst 0, 1), (42, .putfield 49, 3), (45, .aload_n 0, 1), (46, .iconst 0, 1), (47, .putfield 53, 3), (50, .return_, 1)]
def m_Mi_clear : gp_M := (⟨"GoldPlate$Mind", "clear", "()V"⟩, prog_5_method_2_code, 1, none, 0, 0, 3, 0, cd_Mi_clear)
def cd_Mi_priceBy : List (Nat × Instr × Nat) := [(0, .iconst 0, 1), (1, .istore_n 2, 1), (2, .iload_n 2, 1), (3, .aload_n 0, 1), (4, .getfield 37, 3), (7, .if_icmp .ge 92, 3), (10, .aload_n 0, 1), (11, .getfield 18, 3), (14, .iload_n 2, 1), (15, .iaload, 1), (16, .aload_n 0, 1), (17, .getfield 21, 3), (20, .iload_n 2, 1), (21, .iaload, 1), (22, .if_icmp .ne 7, 3), (25, .iconst 1, 1), (26, .goto 4, 3), (29, .iconst 0, 1), (30, .istore_n 3, 1), (31, .iload_n 3, 1), (32, .ifCond .ne 26, 3), (35, .aload_n 1, 1), (36, .aload_n 0, 1), (37, .getfield 9, 3), (40, .aload_n 0, 1), (41, .getfield 18, 3), (44, .iload_n 2, 1), (45, .iaload, 1), (46, .aload_n 0, 1), (47, .getfield 21, 3), (50, .iload_n 2, 1), (51, .iaload, 1), (52, .invokevirtual 56, 3), (55, .ifCond .eq 38, 3), (58, .aload_n 1, 1), (59, .aload_n 0, 1), (60, .getfield 9, 3), (63, .aload_n 0, 1), (64, .getfield 15, 3), (67, .iload_n 2, 1), (68, .iaload, 1), (69, .aload_n 0, 1), (70, .getfield 18, 3), (73, .iload_n 2, 1), (74, .iaload, 1), (75, .invokevirtual 56, 3), (78, .istore 4, 2), (80, .iconst 0, 1), (81, .sipush 999, 3), (84, .iload 4, 2), (86, .invokestatic 62, 3), (89, .invokestatic 68, 3), (92, .ireturn, 1), (93, .iinc 2 1, 3), (96, .goto (-94), 3), (99, .iconst 0, 1), (100, .ireturn, 1)]
def m_Mi_priceBy : gp_M := (⟨"GoldPlate$Mind", "priceBy", "(LGoldPlate$Sums;)I"⟩, prog_5_method_3_code, 5, (some .int), 0, 0, 3, 1, cd_Mi_priceBy)
def cd_Mi_rankBy : List (Nat × Instr × Nat) := [(0, .aload_n 0, 1), (1, .getfield 53, 3), (4, .ifCond .eq 22, 3), (7, .aload_n 1, 1), (8, .aload_n 0, 1), (9, .getfield 9, 3), (12, .aload_n 0, 1), (13, .getfield 43, 3), (16, .aload_n 0, 1), (17, .getfield 46, 3), (20, .invokevirtual 56, 3), (23, .goto 4, 3), (26, .iconst 0, 1), (27, .ireturn, 1)]
def m_Mi_rankBy : gp_M := (⟨"GoldPlate$Mind", "rankBy", "(LGoldPlate$Sums;)I"⟩, prog_5_method_4_code, 2, (some .int), 0, 0, 3, 1, cd_Mi_rankBy)
def cd_Pa_init : List (Nat × Instr × Nat) := [(0, .aload_n 0, 1), (1, .invokespecial 3, 3), (4, .aload_n 0, 1), (5, .sipush 500, 3), (8, .newarray .int, 2), (10, .putfield 9, 3), (13, .aload_n 0, 1), (14, .sipush 501, 3), (17, .newarray .int, 2), (19, .putfield 15, 3), (22, .aload_n 0, 1), (23, .sipush 501, 3), (26, .newarray .int, 2), (28, .putfield 18, 3), (31, .aload_n 0, 1), (32, .sipush 501, 3), (35, .newarray .int, 2), (37, .putfield 21, 3), (40, .aload_n 0, 1), (41, .iconst (-1), 1), (42, .putfield 24, 3), (45, .aload_n 0, 1), (46, .new 28, 3), (49, .dup, 1), (50, .invokespecial 30, 3), (53, .putfield 31, 3), (56, .return_, 1)]
def m_Pa_init : gp_M := (⟨"GoldPlate$Parser", "<init>", "()V"⟩, prog_6_method_1_code, 1, none, 9, 2565, 4, 0, cd_Pa_init)
def cd_Pa_addBytes : List (Nat × Instr × Nat) := [(0, .bipush 24, 2), (2, .istore_n 2, 1), (3, .iload_n 2, 1), (4, .ifCond .lt 45, 3), (7, .aload_n 0, 1), (8, .getfield 35, 3), (11, .sipush 500, 3), (14, .if_icmp .ge 29, 3), (17, .aload_n 0, 1), (18, .getfield 9, 3), (21, .aload_n 0, 1), (22, .getfield 35, 3), (25, .iload_n 1, 1), (26, .iload_n 2, 1), (27, .ishr, 1), (28, .sipush 255, 3), (31, .iand, 1), (32, .iastore, 1), (33, .aload_n 0, 1), (34, .dup, 1), (35, .getfield 35, 3), (38, .iconst 1, 1), (39, .iadd, 1), (40, .putfield 35, 3), (43, .iinc 2 (-8), 3), (46, .goto (-43), 3), (49, .return_, 1)]
def m_Pa_addBytes : gp_M := (⟨"GoldPlate$Parser", "addBytes", "(I)V"⟩, prog_6_method_2_code, 3, none, 0, 0, 4, 1, cd_Pa_addBytes)
def cd_Pa_forget : List (Nat × Instr × Nat) := [(0, .aload_n 0, 1), (1, .iconst 0, 1), (2, .putfield 35, 3), (5, .aload_n 0, 1), (6, .iconst 0, 1), (7, .putfield 38, 3), (10, .aload_n 0, 1), (11, .iconst (-1), 1), (12, .putfield 24, 3), (15, .return_, 1)]
def m_Pa_forget : gp_M := (⟨"GoldPlate$Parser", "forget", "()V"⟩, prog_6_method_3_code, 1, none, 0, 0, 4, 0, cd_Pa_forget)
def cd_Pa_scan : List (Nat × Instr × Nat) := [(0, .aload_n 0, 1), (1, .iconst 0, 1), (2, .putfield 41, 3), (5, .iconst 0, 1), (6, .istore_n 1, 1), (7, .iconst 0, 1), (8, .istore_n 2, 1), (9, .iload_n 2, 1), (10, .aload_n 0, 1), (11, .getfield 35, 3), (14, .if_icmp .ge 26, 3), (17, .iload_n 2, 1), (18, .iload_n 1, 1), (19, .if_icmp .ne 15, 3), (22, .aload_n 0, 1), (23, .iload_n 2, 1), (24, .invokevirtual 44, 3), (27, .istore_n 1, 1), (28, .aload_n 0, 1), (29, .iload_n 2, 1), (30, .iload_n 1, 1), (31, .invokevirtual 48, 3), (34, .iinc 2 1, 3), (37, .goto (-28), 3), (40, .aload_n 0, 1), (41, .bipush 31, 2), (43, .iconst 0, 1), (44, .aload_n 0, 1), (45, .getfield 35, 3), (48, .invokevirtual 52, 3), (51, .return_, 1)]
def m_Pa_scan : gp_M := (⟨"GoldPlate$Parser", "scan", "()V"⟩, prog_6_method_4_code, 3, none, 0, 0, 4, 0, cd_Pa_scan)
def cd_Pa_scanRun : List (Nat × Instr × Nat) := [(0, .aload_n 0, 1), (1, .getfield 9, 3), (4, .iload_n 1, 1), (5, .iaload, 1), (6, .istore_n 3, 1), (7, .iload_n 3, 1), (8, .invokestatic 56, 3), (11, .ifCond .eq 18, 3), (14, .aload_n 0, 1), (15, .aload_n 0, 1), (16, .iload_n 1, 1), (17, .iload_n 2, 1), (18, .invokevirtual 60, 3), (21, .iconst 0, 1), (22, .iload_n 1, 1), (23, .invokevirtual 52, 3), (26, .goto 72, 3), (29, .iload_n 3, 1), (30, .invokestatic 64, 3), (33, .ifCond .eq 31, 3), (36, .aload_n 0, 1), (37, .iload_n 2, 1), (38, .iload_n 1, 1), (39, .isub, 1), (40, .iconst 4, 1), (41, .if_icmp .le 8, 3), (44, .bipush 32, 2), (46, .goto 5, 3), (49, .bipush 30, 2), (51, .aload_n 0, 1), (52, .iload_n 1, 1), (53, .iload_n 2, 1), (54, .invokevirtual 67, 3), (57, .iload_n 1, 1), (58, .invokevirtual 52, 3), (61, .goto 37, 3), (64, .iload_n 3, 1), (65, .bipush 32, 2), (67, .if_icmp .eq 31, 3), (70, .iload_n 3, 1), (71, .bipush 10, 2), (73, .if_icmp .eq 25, 3), (76, .aload_n 0, 1), (77, .ldc 70, 2), (79, .iload_n 3, 1), (80, .i2c, 1), (81, .invokevirtual 72, 3), (84, .ifCond .lt 7, 3), (87, .iload_n 3, 1), (88, .goto 5, 3), (91, .bipush 32, 2), (93, .iconst 0, 1), (94, .iload_n 1, 1), (95, .invokevirtual 52, 3), (98, .return_, 1)]
def m_Pa_scanRun : gp_M := (⟨"GoldPlate$Parser", "scanRun", "(II)V"⟩, prog_6_method_5_code, 4, none, 0, 0, 4, 2, cd_Pa_scanRun)
def cd_Pa_addToken : List (Nat × Instr × Nat) := [(0, .aload_n 0, 1), (1, .getfield 41, 3), (4, .sipush 500, 3), (7, .if_icmp .gt 43, 3), (10, .aload_n 0, 1), (11, .getfield 15, 3), (14, .aload_n 0, 1), (15, .getfield 41, 3), (18, .iload_n 1, 1), (19, .iastore, 1), (20, .aload_n 0, 1), (21, .getfield 18, 3), (24, .aload_n 0, 1), (25, .getfield 41, 3), (28, .iload_n 2, 1), (29, .iastore, 1), (30, .aload_n 0, 1), (31, .getfield 21, 3), (34, .aload_n 0, 1), (35, .getfield 41, 3), (38, .iload_n 3, 1), (39, .iastore, 1), (40, .aload_n 0, 1), (41, .dup, 1), (42, .getfield 41, 3), (45, .iconst 1, 1), (46, .iadd, 1), (47, .putfield 41, 3), (50, .return_, 1)]
def m_Pa_addToken : gp_M := (⟨"GoldPlate$Parser", "addToken", "(III)V"⟩, prog_6_method_6_code, 4, none, 0, 0, 4, 3, cd_Pa_addToken)
def cd_Pa_runEnd : List (Nat × Instr × Nat) := [(0, .aload_n 0, 1), (1, .getfield 9, 3), (4, .iload_n 1, 1), (5, .iaload, 1), (6, .invokestatic 56, 3), (9, .istore_n 2, 1), (10, .aload_n 0, 1), (11, .getfield 9, 3), (14, .iload_n 1, 1), (15, .iaload, 1), (16, .invokestatic 64, 3), (19, .istore_n 3, 1), (20, .iload_n 1, 1), (21, .iconst 1, 1), (22, .iadd, 1), (23, .istore 4, 2), (25, .iload 4, 2), (27, .aload_n 0, 1), (28, .getfield 35, 3), (31, .if_icmp .ge 43, 3), (34, .iload_n 2, 1), (35, .ifCond .eq 16, 3), (38, .aload_n 0, 1), (39, .getfield 9, 3), (42, .iload 4, 2), (44, .iaload, 1), (45, .invokestatic 56, 3), (48, .ifCond .ne 20, 3), (51, .iload_n 3, 1), (52, .ifCond .eq 22, 3), (55, .aload_n 0, 1), (56, .getfield 9, 3), (59, .iload 4, 2), (61, .iaload, 1), (62, .invokestatic 64, 3), (65, .ifCond .eq 9, 3), (68, .iinc 4 1, 3), (71, .goto (-46), 3), (74, .iload 4, 2), (76, .ireturn, 1)]
def m_Pa_runEnd : gp_M := (⟨"GoldPlate$Parser", "runEnd", "(I)I"⟩, prog_6_method_7_code, 5, (some .int), 0, 0, 4, 1, cd_Pa_runEnd)
def cd_Pa_isLetter : List (Nat × Instr × Nat) := [(0, .iload_n 0, 1), (1, .bipush 97, 2), (3, .if_icmp .lt 9, 3), (6, .iload_n 0, 1), (7, .bipush 122, 2), (9, .if_icmp .le 15, 3), (12, .iload_n 0, 1), (13, .bipush 65, 2), (15, .if_icmp .lt 13, 3), (18, .iload_n 0, 1), (19, .bipush 90, 2), (21, .if_icmp .gt 7, 3), (24, .iconst 1, 1), (25, .goto 4, 3), (28, .iconst 0, 1), (29, .ireturn, 1)]
def m_Pa_isLetter : gp_M := (⟨"GoldPlate$Parser", "isLetter", "(I)Z"⟩, prog_6_method_8_code, 1, (some .boolean), 0, 0, 4, 1, cd_Pa_isLetter)
def cd_Pa_isDigit : List (Nat × Instr × Nat) := [(0, .iload_n 0, 1), (1, .bipush 48, 2), (3, .if_icmp .lt 13, 3), (6, .iload_n 0, 1), (7, .bipush 57, 2), (9, .if_icmp .gt 7, 3), (12, .iconst 1, 1), (13, .goto 4, 3), (16, .iconst 0, 1), (17, .ireturn, 1)]
def m_Pa_isDigit : gp_M := (⟨"GoldPlate$Parser", "isDigit", "(I)Z"⟩, prog_6_method_9_code, 1, (some .boolean), 0, 0, 4, 1, cd_Pa_isDigit)
def cd_Pa_numberOf : List (Nat × Instr × Nat) := [(0, .iconst 0, 1), (1, .istore_n 3, 1), (2, .iload_n 1, 1), (3, .istore 4, 2), (5, .iload 4, 2), (7, .iload_n 2, 1), (8, .if_icmp .ge 25, 3), (11, .iload_n 3, 1), (12, .bipush 10, 2), (14, .imul, 1), (15, .aload_n 0, 1), (16, .getfield 9, 3), (19, .iload 4, 2), (21, .iaload, 1), (22, .iadd, 1), (23, .bipush 48, 2), (25, .isub, 1), (26, .istore_n 3, 1), (27, .iinc 4 1, 3), (30, .goto (-25), 3), (33, .iload_n 3, 1), (34, .ireturn, 1)]
def m_Pa_numberOf : gp_M := (⟨"GoldPlate$Parser", "numberOf", "(II)I"⟩, prog_6_method_10_code, 5, (some .int), 0, 0, 4, 2, cd_Pa_numberOf)
def cd_Pa_keyword : List (Nat × Instr × Nat) := [(0, .aload_n 0, 1), (1, .ldc 77, 2), (3, .iload_n 1, 1), (4, .iload_n 2, 1), (5, .invokevirtual 79, 3), (8, .istore_n 3, 1), (9, .iload_n 3, 1), (10, .iconst (-1), 1), (11, .if_icmp .eq 5, 3), (14, .iload_n 3, 1), (15, .ireturn, 1), (16, .aload_n 0, 1), (17, .ldc 83, 2), (19, .iload_n 1, 1), (20, .iload_n 2, 1), (21, .invokevirtual 79, 3), (24, .istore 4, 2), (26, .iload 4, 2), (28, .iconst (-1), 1), (29, .if_icmp .eq 11, 3), (32, .bipush 9, 2), (34, .iload 4, 2), (36, .iadd, 1), (37, .goto 5, 3), (40, .bipush 32, 2), (42, .ireturn, 1)]
def m_Pa_keyword : gp_M := (⟨"GoldPlate$Parser", "keyword", "(II)I"⟩, prog_6_method_11_code, 5, (some .int), 0, 0, 4, 2, cd_Pa_keyword)
def cd_Pa_indexIn : List (Nat × Instr × Nat) := [(0, .iconst 0, 1), (1, .istore 4, 2), (3, .iconst 0, 1), (4, .istore 5, 2), (6, .iconst 0, 1), (7, .istore 6, 2), (9, .iload 6, 2), (11, .aload_n 1, 1), (12, .invokevirtual 85, 3), (15, .if_icmp .ge 57, 3), (18, .aload_n 1, 1), (19, .iload 6, 2), (21, .invokevirtual 89, 3), (24, .bipush 32, 2), (26, .if_icmp .ne 40, 3), (29, .iload 6, 2), (31, .iload 5, 2), (33, .isub, 1), (34, .iload_n 3, 1), (35, .iload_n 2, 1), (36, .isub, 1), (37, .if_icmp .ne 20, 3), (40, .aload_n 0, 1), (41, .aload_n 1, 1), (42, .iload 5, 2), (44, .iload_n 2, 1), (45, .iload_n 3, 1), (46, .iload_n 2, 1), (47, .isub, 1), (48, .invokevirtual 93, 3), (51, .ifCond .eq 6, 3), (54, .iload 4, 2), (56, .ireturn, 1), (57, .iinc 4 1, 3), (60, .iload 6, 2), (62, .iconst 1, 1), (63, .iadd, 1), (64, .istore 5, 2), (66, .iinc 6 1, 3), (69, .goto (-60), 3), (72, .iconst (-1), 1), (73, .ireturn, 1)]
def m_Pa_indexIn : gp_M := (⟨"GoldPlate$Parser", "indexIn", "(Ljava/lang/String;II)I"⟩, prog_6_method_12_code, 7, (some .int), 0, 0, 4, 3, cd_Pa_indexIn)
def cd_Pa_standsAt : List (Nat × Instr × Nat) := [(0, .iconst 0, 1), (1, .istore 5, 2), (3, .iload 5, 2), (5, .iload 4, 2), (7, .if_icmp .ge 31, 3), (10, .aload_n 1, 1), (11, .iload_n 2, 1), (12, .iload 5, 2), (14, .iadd, 1), (15, .invokevirtual 89, 3), (18, .aload_n 0, 1), (19, .getfield 9, 3), (22, .iload_n 3, 1), (23, .iload 5, 2), (25, .iadd, 1), (26, .iaload, 1), (27, .if_icmp .eq 5, 3), (30, .iconst 0, 1), (31, .ireturn, 1), (32, .iinc 5 1, 3), (35, .goto (-32), 3), (38, .iconst 1, 1), (39, .ireturn, 1)]
def m_Pa_standsAt : gp_M := (⟨"GoldPlate$Parser", "standsAt", "(Ljava/lang/String;III)Z"⟩, prog_6_method_13_code, 6, (some .boolean), 0, 0, 4, 4, cd_Pa_standsAt)
def cd_Pa_readsText : List (Nat × Instr × Nat) := [(0, .aload_n 0, 1), (1, .invokevirtual 97, 3), (4, .aload_n 0, 1), (5, .iconst 0, 1), (6, .putfield 100, 3), (9, .aload_n 0, 1), (10, .getfield 31, 3), (13, .invokevirtual 103, 3), (16, .iconst 0, 1), (17, .istore_n 1, 1), (18, .iload_n 1, 1), (19, .sipush 500, 3), (22, .if_icmp .gt 29, 3), (25, .aload_n 0, 1), (26, .getfield 38, 3), (29, .ifCond .ne 22, 3), (32, .aload_n 0, 1), (33, .invokevirtual 106, 3), (36, .bipush 31, 2), (38, .if_icmp .eq 13, 3), (41, .aload_n 0, 1), (42, .invokevirtual 109, 3), (45, .iinc 1 1, 3), (48, .goto (-30), 3), (51, .aload_n 0, 1), (52, .getfield 38, 3), (55, .ifCond .ne 7, 3), (58, .iconst 1, 1), (59, .goto 4, 3), (62, .iconst 0, 1), (63, .ireturn, 1)]
def m_Pa_readsText : gp_M := (⟨"GoldPlate$Parser", "readsText", "()Z"⟩, prog_6_method_14_code, 2, (some .boolean), 0, 0, 4, 0, cd_Pa_readsText)
def cd_Pa_readLine : List (Nat × Instr × Nat) := [(0, .aload_n 0, 1), (1, .invokevirtual 106, 3), (4, .istore_n 1, 1), (5, .iload_n 1, 1), (6, .ifCond .lt 8, 3), (9, .iload_n 1, 1), (10, .iconst 4, 1), (11, .if_icmp .le 9, 3), (14, .aload_n 0, 1), (15, .iconst 1, 1), (16, .invokevirtual 112, 3), (19, .return_, 1), (20, .iload_n 1, 1), (21, .iconst 2, 1), (22, .if_icmp .ne 13, 3), (25, .aload_n 0, 1), (26, .getfield 31, 3), (29, .getfield 116, 3), (32, .ifCond .ne 18, 3), (35, .iload_n 1, 1), (36, .iconst 4, 1), (37, .if_icmp .ne 17, 3), (40, .aload_n 0, 1), (41, .getfield 31, 3), (44, .getfield 120, 3), (47, .ifCond .eq 7, 3), (50, .iconst 1, 1), (51, .goto 4, 3), (54, .iconst 0, 1), (55, .istore_n 2, 1), (56, .iload_n 2, 1), (57, .ifCond .ne 15, 3), (60, .aload_n 0, 1), (61, .getfield 31, 3), (64, .getfield 123, 3), (67, .bipush 16, 2), (69, .if_icmp .lt 9, 3), (72, .aload_n 0, 1), (73, .iconst 3, 1), (74, .invokevirtual 112, 3), (77, .return_, 1), (78, .aload_n 0, 1), (79, .getfield 31, 3), (82, .getfield 126, 3), (85, .istore_n 3, 1), (86, .aload_n 0, 1), (87, .getfield 31, 3), (90, .dup, 1), (91, .getfield 123, 3), (94, .iconst 1, 1), (95, .iadd, 1), (96, .putfield 123, 3), (99, .aload_n 0, 1), (100, .dup, 1), (101, .getfield 100, 3), (104, .iconst 1, 1), (105, .iadd, 1), (106, .putfield 100, 3), (109, .iload_n 1, 1), (110, .iconst 3, 1), (111, .if_icmp .ne 107, 3), (114, .iload_n 3, 1), (115, .bipush 16, 2), (117, .if_icmp .ge 101, 3), (120, .aload_n 0, 1), (121, .getfield 31, 3), (124, .getfield 129, 3), (127, .iload_n 3, 1), (128, .aload_n 0, 1), (129, .getfield 31, 3), (132, .getfield 132, 3), (135, .iastore, 1), (136, .aload_n 0, 1), (137, .invokevirtual 135, 3), (140, .aload_n 0, 1), (141, .getfield 31, 3), (144, .getfield 138, 3), (147, .iload_n 3, 1), (148, .aload_n 0, 1), (149, .getfield 31, 3), (152, .getfield 132, 3), (155, .iastore, 1), (156, .aload_n 0, 1), (157, .getfield 38, 3), (160, .ifCond .ne 26, 3), (163, .aload_n 0, 1), (164, .invokevirtual 106, 3), (167, .iconst 5, 1), (168, .if_icmp .ne 18, 3), (171, .aload_n 0, 1), (172, .dup, 1), (173, .getfield 100, 3), (176, .iconst 1, 1), (177, .iadd, 1), (178, .putfield 100, 3), (181, .aload_n 0, 1), (182, .iconst 0, 1), (183, .invokevirtual 141, 3), (186, .aload_n 0, 1), (187, .getfield 31, 3), (190, .getfield 144, 3), (193, .iload_n 3, 1), (194, .aload_n 0, 1), (195, .getfield 31, 3), (198, .getfield 132, 3), (201, .iastore, 1), (202, .aload_n 0, 1), (203, .getfield 31, 3), (206, .dup, 1), (207, .getfield 126, 3), (210, .iconst 1, 1), (211, .iadd, 1), (212, .putfield 126, 3), (215, .goto 56, 3), (218, .iload_n 1, 1), (219, .iconst 4, 1), (220, .if_icmp .ne 46, 3), (223, .aload_n 0, 1), (224, .getfield 31, 3), (227, .iconst 1, 1), (228, .putfield 120, 3), (231, .aload_n 0, 1), (232, .getfield 31, 3), (235, .aload_n 0, 1), (236, .getfield 31, 3), (239, .getfield 132, 3), (242, .putfield 147, 3), (245, .aload_n 0, 1), (246, .invokevirtual 135, 3), (249, .aload_n 0, 1), (250, .getfield 31, 3), (253, .aload_n 0, 1), (254, .getfield 31, 3), (257, .getfield 132, 3), (260, .putfield 150, 3), (263, .goto 8, 3), (266, .aload_n 0, 1), (267, .iload_n 1, 1), (268, .invokevirtual 153, 3), (271, .aload_n 0, 1), (272, .bipush 59, 2), (274, .invokevirtual 156, 3), (277, .return_, 1)]
def m_Pa_readLine : gp_M := (⟨"GoldPlate$Parser", "readLine", "()V"⟩, prog_6_method_15_code, 4, none, 0, 0, 4, 0, cd_Pa_readLine)
def cd_Pa_readNumber : List (Nat × Instr × Nat) := [(0, .aload_n 0, 1), (1, .invokevirtual 106, 3), (4, .bipush 30, 2), (6, .if_icmp .eq 9, 3), (9, .aload_n 0, 1), (10, .iconst 1, 1), (11, .invokevirtual 112, 3), (14, .return_, 1), (15, .aload_n 0, 1), (16, .getfield 18, 3), (19, .aload_n 0, 1), (20, .getfield 100, 3), (23, .iaload, 1), (24, .istore_n 2, 1), (25, .iload_n 1, 1), (26, .ifCond .ne 7, 3), (29, .iconst 3, 1), (30, .goto 14, 3), (33, .iload_n 1, 1), (34, .iconst 1, 1), (35, .if_icmp .ne 8, 3), (38, .bipush 7, 2), (40, .goto 4, 3), (43, .iconst 1, 1), (44, .istore_n 3, 1), (45, .iload_n 2, 1), (46, .iload_n 3, 1), (47, .if_icmp .le 9, 3), (50, .aload_n 0, 1), (51, .iconst 2, 1), (52, .invokevirtual 112, 3), (55, .return_, 1), (56, .aload_n 0, 1), (57, .dup, 1), (58, .getfield 100, 3), (61, .iconst 1, 1), (62, .iadd, 1), (63, .putfield 100, 3), (66, .iload_n 1, 1), (67, .ifCond .ne 21, 3), (70, .aload_n 0, 1), (71, .getfield 31, 3), (74, .dup, 1), (75, .getfield 159, 3), (78, .iconst 1, 1), (79, .iload_n 2, 1), (80, .ishl, 1), (81, .ior, 1), (82, .putfield 159, 3), (85, .goto 42, 3), (88, .iload_n 1, 1), (89, .iconst 1, 1), (90, .if_icmp .ne 21, 3), (93, .aload_n 0, 1), (94, .getfield 31, 3), (97, .dup, 1), (98, .getfield 162, 3), (101, .iconst 1, 1), (102, .iload_n 2, 1), (103, .ishl, 1), (104, .ior, 1), (105, .putfield 162, 3), (108, .goto 19, 3), (111, .aload_n 0, 1), (112, .getfield 31, 3), (115, .iconst 1, 1), (116, .putfield 116, 3), (119, .aload_n 0, 1), (120, .getfield 31, 3), (123, .iload_n 2, 1), (124, .putfield 165, 3), (127, .return_, 1)]
def m_Pa_readNumber : gp_M := (⟨"GoldPlate$Parser", "readNumber", "(I)V"⟩, prog_6_method_16_code, 4, none, 0, 0, 4, 1, cd_Pa_readNumber)
def cd_Pa_condition : List (Nat × Instr × Nat) := [(0, .iconst 0, 1), (1, .istore_n 2, 1), (2, .aload_n 0, 1), (3, .iload_n 1, 1), (4, .invokevirtual 168, 3), (7, .iconst 0, 1), (8, .istore_n 3, 1), (9, .iload_n 3, 1), (10, .sipush 500, 3), (13, .if_icmp .gt 87, 3), (16, .aload_n 0, 1), (17, .getfield 38, 3), (20, .ifCond .ne 80, 3), (23, .aload_n 0, 1), (24, .invokevirtual 106, 3), (27, .bipush 7, 2), (29, .if_icmp .ne 28, 3), (32, .aload_n 0, 1), (33, .dup, 1), (34, .getfield 100, 3), (37, .iconst 1, 1), (38, .iadd, 1), (39, .putfield 100, 3), (42, .aload_n 0, 1), (43, .iload_n 1, 1), (44, .invokevirtual 168, 3), (47, .aload_n 0, 1), (48, .bipush 10, 2), (50, .iconst 0, 1), (51, .invokevirtual 173, 3), (54, .goto 40, 3), (57, .aload_n 0, 1), (58, .invokevirtual 106, 3), (61, .bipush 6, 2), (63, .if_icmp .ne 37, 3), (66, .iload_n 2, 1), (67, .ifCond .eq 10, 3), (70, .aload_n 0, 1), (71, .bipush 11, 2), (73, .iconst 0, 1), (74, .invokevirtual 173, 3), (77, .iconst 1, 1), (78, .istore_n 2, 1), (79, .aload_n 0, 1), (80, .dup, 1), (81, .getfield 100, 3), (84, .iconst 1, 1), (85, .iadd, 1), (86, .putfield 100, 3), (89, .aload_n 0, 1), (90, .iload_n 1, 1), (91, .invokevirtual 168, 3), (94, .iinc 3 1, 3), (97, .goto (-88), 3), (100, .iload_n 2, 1), (101, .ifCond .eq 10, 3), (104, .aload_n 0, 1), (105, .bipush 11, 2), (107, .iconst 0, 1), (108, .invokevirtual 173, 3), (111, .return_, 1)]
def m_Pa_condition : gp_M := (⟨"GoldPlate$Parser", "condition", "(I)V"⟩, prog_6_method_17_code, 4, none, 0, 0, 4, 1, cd_Pa_condition)
def cd_Pa_check : List (Nat × Instr × Nat) := [(0, .aload_n 0, 1), (1, .invokevirtual 106, 3), (4, .istore_n 2, 1), (5, .iload_n 2, 1), (6, .bipush 8, 2), (8, .if_icmp .eq 9, 3), (11, .iload_n 2, 1), (12, .bipush 40, 2), (14, .if_icmp .ne 7, 3), (17, .iconst 1, 1), (18, .goto 4, 3), (21, .iconst 0, 1), (22, .istore_n 3, 1), (23, .iload_n 3, 1), (24, .ifCond .eq 17, 3), (27, .iload_n 1, 1), (28, .bipush 8, 2), (30, .if_icmp .lt 11, 3), (33, .aload_n 0, 1), (34, .iconst 3, 1), (35, .invokevirtual 112, 3), (38, .goto 119, 3), (41, .iload_n 2, 1), (42, .bipush 8, 2), (44, .if_icmp .ne 30, 3), (47, .aload_n 0, 1), (48, .dup, 1), (49, .getfield 100, 3), (52, .iconst 1, 1), (53, .iadd, 1), (54, .putfield 100, 3), (57, .aload_n 0, 1), (58, .iload_n 1, 1), (59, .iconst 1, 1), (60, .iadd, 1), (61, .invokevirtual 168, 3), (64, .aload_n 0, 1), (65, .bipush 9, 2), (67, .iconst 0, 1), (68, .invokevirtual 173, 3), (71, .goto 86, 3), (74, .iload_n 2, 1), (75, .bipush 40, 2), (77, .if_icmp .ne 29, 3), (80, .aload_n 0, 1), (81, .dup, 1), (82, .getfield 100, 3), (85, .iconst 1, 1), (86, .iadd, 1), (87, .putfield 100, 3), (90, .aload_n 0, 1), (91, .iload_n 1, 1), (92, .iconst 1, 1), (93, .iadd, 1), (94, .invokevirtual 141, 3), (97, .aload_n 0, 1), (98, .bipush 41, 2), (100, .invokevirtual 156, 3), (103, .goto 54, 3), (106, .aload_n 0, 1), (107, .invokevirtual 135, 3), (110, .aload_n 0, 1), (111, .invokevirtual 106, 3), (114, .istore 4, 2), (116, .aload_n 0, 1), (117, .iload 4, 2), (119, .invokevirtual 176, 3), (122, .aload_n 0, 1), (123, .invokevirtual 135, 3), (126, .aload_n 0, 1), (127, .iload 4, 2), (129, .bipush 60, 2), (131, .if_icmp .ne 8, 3), (134, .bipush 6, 2), (136, .goto 17, 3), (139, .iload 4, 2), (141, .bipush 61, 2), (143, .if_icmp .ne 8, 3), (146, .bipush 7, 2), (148, .goto 5, 3), (151, .bipush 8, 2), (153, .iconst 0, 1), (154, .invokevirtual 173, 3), (157, .return_, 1)]
def m_Pa_check : gp_M := (⟨"GoldPlate$Parser", "check", "(I)V"⟩, prog_6_method_18_code, 5, none, 0, 0, 4, 1, cd_Pa_check)
def cd_Pa_expectComparison : List (Nat × Instr × Nat) := [(0, .aload_n 0, 1), (1, .iload_n 1, 1), (2, .bipush 60, 2), (4, .if_icmp .eq 15, 3), (7, .iload_n 1, 1), (8, .bipush 61, 2), (10, .if_icmp .eq 9, 3), (13, .iload_n 1, 1), (14, .bipush 62, 2), (16, .if_icmp .ne 7, 3), (19, .iload_n 1, 1), (20, .goto 5, 3), (23, .bipush 33, 2), (25, .invokevirtual 156, 3), (28, .return_, 1)]
def m_Pa_expectComparison : gp_M := (⟨"GoldPlate$Parser", "expectComparison", "(I)V"⟩, prog_6_method_19_code, 2, none, 0, 0, 4, 1, cd_Pa_expectComparison)
def cd_Pa_expression : List (Nat × Instr × Nat) := [(0, .iconst (-1), 1), (1, .istore_n 1, 1), (2, .aload_n 0, 1), (3, .invokevirtual 179, 3), (6, .iconst 0, 1), (7, .istore_n 2, 1), (8, .iload_n 2, 1), (9, .sipush 500, 3), (12, .if_icmp .gt 122, 3), (15, .aload_n 0, 1), (16, .getfield 38, 3), (19, .ifCond .ne 115, 3), (22, .aload_n 0, 1), (23, .invokevirtual 106, 3), (26, .istore_n 3, 1), (27, .iload_n 3, 1), (28, .bipush 42, 2), (30, .if_icmp .ne 26, 3), (33, .aload_n 0, 1), (34, .dup, 1), (35, .getfield 100, 3), (38, .iconst 1, 1), (39, .iadd, 1), (40, .putfield 100, 3), (43, .aload_n 0, 1), (44, .invokevirtual 179, 3), (47, .aload_n 0, 1), (48, .iconst 4, 1), (49, .iconst 0, 1), (50, .invokevirtual 173, 3), (53, .goto 75, 3), (56, .iload_n 3, 1), (57, .bipush 47, 2), (59, .if_icmp .ne 20, 3), (62, .aload_n 0, 1), (63, .dup, 1), (64, .getfield 100, 3), (67, .iconst 1, 1), (68, .iadd, 1), (69, .putfield 100, 3), (72, .aload_n 0, 1), (73, .invokevirtual 182, 3), (76, .goto 52, 3), (79, .iload_n 3, 1), (80, .bipush 43, 2), (82, .if_icmp .eq 9, 3), (85, .iload_n 3, 1), (86, .bipush 45, 2), (88, .if_icmp .ne 46, 3), (91, .iload_n 1, 1), (92, .iconst (-1), 1), (93, .if_icmp .eq 9, 3), (96, .aload_n 0, 1), (97, .iload_n 1, 1), (98, .iconst 0, 1), (99, .invokevirtual 173, 3), (102, .iload_n 3, 1), (103, .bipush 43, 2), (105, .if_icmp .ne 7, 3), (108, .iconst 2, 1), (109, .goto 4, 3), (112, .iconst 3, 1), (113, .istore_n 1, 1), (114, .aload_n 0, 1), (115, .dup, 1), (116, .getfield 100, 3), (119, .iconst 1, 1), (120, .iadd, 1), (121, .putfield 100, 3), (124, .aload_n 0, 1), (125, .invokevirtual 179, 3), (128, .iinc 2 1, 3), (131, .goto (-123), 3), (134, .iload_n 1, 1), (135, .iconst (-1), 1), (136, .if_icmp .eq 9, 3), (139, .aload_n 0, 1), (140, .iload_n 1, 1), (141, .iconst 0, 1), (142, .invokevirtual 173, 3), (145, .return_, 1)]
def m_Pa_expression : gp_M := (⟨"GoldPlate$Parser", "expression", "()V"⟩, prog_6_method_20_code, 4, none, 0, 0, 4, 0, cd_Pa_expression)
def cd_Pa_unit : List (Nat × Instr × Nat) := [(0, .aload_n 0, 1), (1, .invokevirtual 106, 3), (4, .istore_n 1, 1), (5, .iload_n 1, 1), (6, .bipush 30, 2), (8, .if_icmp .ne 30, 3), (11, .aload_n 0, 1), (12, .iconst 0, 1), (13, .aload_n 0, 1), (14, .getfield 18, 3), (17, .aload_n 0, 1), (18, .getfield 100, 3), (21, .iaload, 1), (22, .invokevirtual 173, 3), (25, .aload_n 0, 1), (26, .dup, 1), (27, .getfield 100, 3), (30, .iconst 1, 1), (31, .iadd, 1), (32, .putfield 100, 3), (35, .goto 42, 3), (38, .iload_n 1, 1), (39, .bipush 9, 2), (41, .if_icmp .lt 31, 3), (44, .iload_n 1, 1), (45, .bipush 21, 2), (47, .if_icmp .gt 25, 3), (50, .aload_n 0, 1), (51, .iconst 1, 1), (52, .iload_n 1, 1), (53, .bipush 9, 2), (55, .isub, 1), (56, .invokevirtual 173, 3), (59, .aload_n 0, 1), (60, .dup, 1), (61, .getfield 100, 3), (64, .iconst 1, 1), (65, .iadd, 1), (66, .putfield 100, 3), (69, .goto 8, 3), (72, .aload_n 0, 1), (73, .iconst 1, 1), (74, .invokevirtual 112, 3), (77, .return_, 1)]
def m_Pa_unit : gp_M := (⟨"GoldPlate$Parser", "unit", "()V"⟩, prog_6_method_21_code, 2, none, 0, 0, 4, 0, cd_Pa_unit)
def cd_Pa_part : List (Nat × Instr × Nat) := [(0, .aload_n 0, 1), (1, .invokevirtual 106, 3), (4, .bipush 30, 2), (6, .if_icmp .eq 11, 3), (9, .aload_n 0, 1), (10, .iconst 1, 1), (11, .invokevirtual 112, 3), (14, .goto 47, 3), (17, .aload_n 0, 1), (18, .getfield 18, 3), (21, .aload_n 0, 1), (22, .getfield 100, 3), (25, .iaload, 1), (26, .ifCond .ne 11, 3), (29, .aload_n 0, 1), (30, .iconst 2, 1), (31, .invokevirtual 112, 3), (34, .goto 27, 3), (37, .aload_n 0, 1), (38, .iconst 5, 1), (39, .aload_n 0, 1), (40, .getfield 18, 3), (43, .aload_n 0, 1), (44, .getfield 100, 3), (47, .iaload, 1), (48, .invokevirtual 173, 3), (51, .aload_n 0, 1), (52, .dup, 1), (53, .getfield 100, 3), (56, .iconst 1, 1), (57, .iadd, 1), (58, .putfield 100, 3), (61, .return_, 1)]
def m_Pa_part : gp_M := (⟨"GoldPlate$Parser", "part", "()V"⟩, prog_6_method_22_code, 1, none, 0, 0, 4, 0, cd_Pa_part)
def cd_Pa_expect : List (Nat × Instr × Nat) := [(0, .aload_n 0, 1), (1, .invokevirtual 106, 3), (4, .iload_n 1, 1), (5, .if_icmp .ne 16, 3), (8, .aload_n 0, 1), (9, .dup, 1), (10, .getfield 100, 3), (13, .iconst 1, 1), (14, .iadd, 1), (15, .putfield 100, 3), (18, .goto 8, 3), (21, .aload_n 0, 1), (22, .iconst 1, 1), (23, .invokevirtual 112, 3), (26, .return_, 1)]
def m_Pa_expect : gp_M := (⟨"GoldPlate$Parser", "expect", "(I)V"⟩, prog_6_method_23_code, 2, none, 0, 0, 4, 1, cd_Pa_expect)
def cd_Pa_kind : List (Nat × Instr × Nat) := [(0, .aload_n 0, 1), (1, .getfield 100, 3), (4, .ifCond .lt 26, 3), (7, .aload_n 0, 1), (8, .getfield 100, 3), (11, .aload_n 0, 1), (12, .getfield 41, 3), (15, .if_icmp .ge 15, 3), (18, .aload_n 0, 1), (19, .getfield 15, 3), (22, .aload_n 0, 1), (23, .getfield 100, 3), (26, .iaload, 1), (27, .goto 5, 3), (30, .bipush 31, 2), (32, .ireturn, 1)]
def m_Pa_kind : gp_M := (⟨"GoldPlate$Parser", "kind", "()I"⟩, prog_6_method_24_code, 1, (some .int), 0, 0, 4, 0, cd_Pa_kind)
def cd_Pa_fail : List (Nat × Instr × Nat) := [(0, .aload_n 0, 1), (1, .getfield 38, 3), (4, .ifCond .ne 43, 3), (7, .aload_n 0, 1), (8, .iload_n 1, 1), (9, .putfield 38, 3), (12, .aload_n 0, 1), (13, .aload_n 0, 1), (14, .getfield 100, 3), (17, .ifCond .lt 26, 3), (20, .aload_n 0, 1), (21, .getfield 100, 3), (24, .aload_n 0, 1), (25, .getfield 41, 3), (28, .if_icmp .ge 15, 3), (31, .aload_n 0, 1), (32, .getfield 21, 3), (35, .aload_n 0, 1), (36, .getfield 100, 3), (39, .iaload, 1), (40, .goto 4, 3), (43, .iconst (-1), 1), (44, .putfield 24, 3), (47, .return_, 1)]
def m_Pa_fail : gp_M := (⟨"GoldPlate$Parser", "fail", "(I)V"⟩, prog_6_method_25_code, 2, none, 0, 0, 4, 1, cd_Pa_fail)
def cd_Pa_emit : List (Nat × Instr × Nat) := [(0, .aload_n 0, 1), (1, .getfield 31, 3), (4, .getfield 132, 3), (7, .aload_n 0, 1), (8, .getfield 31, 3), (11, .getfield 185, 3), (14, .arraylength, 1), (15, .if_icmp .ge 36, 3), (18, .aload_n 0, 1), (19, .getfield 31, 3), (22, .getfield 185, 3), (25, .aload_n 0, 1), (26, .getfield 31, 3), (29, .getfield 132, 3), (32, .iload_n 2, 1), (33, .iconst 4, 1), (34, .ishl, 1), (35, .iload_n 1, 1), (36, .ior, 1), (37, .iastore, 1), (38, .aload_n 0, 1), (39, .getfield 31, 3), (42, .dup, 1), (43, .getfield 132, 3), (46, .iconst 1, 1), (47, .iadd, 1), (48, .putfield 132, 3), (51, .return_, 1)]
def m_Pa_emit : gp_M := (⟨"GoldPlate$Parser", "emit", "(II)V"⟩, prog_6_method_26_code, 3, none, 0, 0, 4, 2, cd_Pa_emit)
def cd_Pl_init : List (Nat × Instr × Nat) := [(0, .aload_n 0, 1), (1, .invokespecial 3, 3), (4, .aload_n 0, 1), (5, .bipush 16, 2), (7, .anewarray 9, 3), (10, .putfield 11, 3), (13, .aload_n 0, 1), (14, .bipush 7, 2), (16, .newarray .int, 2), (18, .putfield 17, 3), (21, .aload_n 0, 1), (22, .bipush 16, 2), (24, .newarray .int, 2), (26, .putfield 21, 3), (29, .iconst 0, 1), (30, .istore_n 1, 1), (31, .iload_n 1, 1), (32, .bipush 16, 2), (34, .if_icmp .ge 22, 3), (37, .aload_n 0, 1), (38, .getfield 11, 3), (41, .iload_n 1, 1), (42, .new 9, 3), (45, .dup, 1), (46, .invokespecial 24, 3), (49, .aastore, 1), (50, .iinc 1 1, 3), (53, .goto (-22), 3), (56, .return_, 1)]
def m_Pl_init : gp_M := (⟨"GoldPlate$Plate", "<init>", "()V"⟩, prog_7_method_1_code, 2, none, 19, 183, 5, 0, cd_Pl_init)
def cd_Pl_has : List (Nat × Instr × Nat) := [(0, .iload_n 1, 1), (1, .ifCond .lt 15, 3), (4, .iload_n 1, 1), (5, .aload_n 0, 1), (6, .getfield 25, 3), (9, .if_icmp .ge 7, 3), (12, .iconst 1, 1), (13, .goto 4, 3), (16, .iconst 0, 1), (17, .ireturn, 1)]
def m_Pl_has : gp_M := (⟨"GoldPlate$Plate", "has", "(I)Z"⟩, prog_7_method_2_code, 2, (some .boolean), 0, 0, 5, 1, cd_Pl_has)
def cd_Pl_all : List (Nat × Instr × Nat) := [(0, .iconst 1, 1), (1, .aload_n 0, 1), (2, .getfield 25, 3), (5, .ishl, 1), (6, .iconst 1, 1), (7, .isub, 1), (8, .ireturn, 1)]
def m_Pl_all : gp_M := (⟨"GoldPlate$Plate", "all", "()I"⟩, prog_7_method_3_code, 1, (some .int), 0, 0, 5, 0, cd_Pl_all)
def cd_Pl_leftOf : List (Nat × Instr × Nat) := [(0, .aload_n 1, 1), (1, .getfield 29, 3), (4, .aload_n 0, 1), (5, .getfield 32, 3), (8, .aload_n 0, 1), (9, .getfield 17, 3), (12, .aload_n 1, 1), (13, .getfield 35, 3), (16, .iaload, 1), (17, .imul, 1), (18, .isub, 1), (19, .ireturn, 1)]
def m_Pl_leftOf : gp_M := (⟨"GoldPlate$Plate", "leftOf", "(LGoldPlate$Mark;)I"⟩, prog_7_method_4_code, 2, (some .int), 0, 0, 5, 1, cd_Pl_leftOf)
def cd_Pl_wearOf : List (Nat × Instr × Nat) := [(0, .aload_n 0, 1), (1, .aload_n 1, 1), (2, .invokevirtual 38, 3), (5, .istore_n 2, 1), (6, .iload_n 2, 1), (7, .ifCond .gt 5, 3), (10, .iconst 2, 1), (11, .ireturn, 1), (12, .iload_n 2, 1), (13, .aload_n 1, 1), (14, .getfield 29, 3), (17, .iconst 2, 1), (18, .idiv, 1), (19, .if_icmp .ge 7, 3), (22, .iconst 1, 1), (23, .goto 4, 3), (26, .iconst 0, 1), (27, .ireturn, 1)]
def m_Pl_wearOf : gp_M := (⟨"GoldPlate$Plate", "wearOf", "(LGoldPlate$Mark;)I"⟩, prog_7_method_5_code, 3, (some .int), 0, 0, 5, 1, cd_Pl_wearOf)
def cd_Pl_chainOf : List (Nat × Instr × Nat) := [(0, .iconst 0, 1), (1, .istore_n 2, 1), (2, .iload_n 2, 1), (3, .iload_n 1, 1), (4, .if_icmp .gt 73, 3), (7, .iload_n 2, 1), (8, .aload_n 0, 1), (9, .getfield 25, 3), (12, .if_icmp .ge 65, 3), (15, .iconst 0, 1), (16, .istore_n 3, 1), (17, .iconst 0, 1), (18, .istore 4, 2), (20, .iload 4, 2), (22, .iload_n 2, 1), (23, .if_icmp .ge 39, 3), (26, .aload_n 0, 1), (27, .getfield 11, 3), (30, .iload_n 2, 1), (31, .aaload, 1), (32, .getfield 42, 3), (35, .iload 4, 2), (37, .ishr, 1), (38, .iconst 1, 1), (39, .iand, 1), (40, .iconst 1, 1), (41, .if_icmp .ne 15, 3), (44, .iload_n 3, 1), (45, .aload_n 0, 1), (46, .getfield 21, 3), (49, .iload 4, 2), (51, .iaload, 1), (52, .invokestatic 45, 3), (55, .istore_n 3, 1), (56, .iinc 4 1, 3), (59, .goto (-39), 3), (62, .aload_n 0, 1), (63, .getfield 21, 3), (66, .iload_n 2, 1), (67, .iload_n 3, 1), (68, .iconst 1, 1), (69, .iadd, 1), (70, .iastore, 1), (71, .iinc 2 1, 3), (74, .goto (-72), 3), (77, .aload_n 0, 1), (78, .getfield 21, 3), (81, .iload_n 1, 1), (82, .iaload, 1), (83, .ireturn, 1)]
def m_Pl_chainOf : gp_M := (⟨"GoldPlate$Plate", "chainOf", "(I)I"⟩, prog_7_method_6_code, 5, (some .int), 0, 0, 5, 1, cd_Pl_chainOf)
def cd_Pl_rootsOf : List (Nat × Instr × Nat) := [(0, .iconst 1, 1), (1, .iload_n 1, 1), (2, .ishl, 1), (3, .istore_n 2, 1), (4, .iload_n 1, 1), (5, .istore_n 3, 1), (6, .iload_n 3, 1), (7, .ifCond .lt 30, 3), (10, .iload_n 2, 1), (11, .iload_n 3, 1), (12, .ishr, 1), (13, .iconst 1, 1), (14, .iand, 1), (15, .iconst 1, 1), (16, .if_icmp .ne 15, 3), (19, .iload_n 2, 1), (20, .aload_n 0, 1), (21, .getfield 11, 3), (24, .iload_n 3, 1), (25, .aaload, 1), (26, .getfield 42, 3), (29, .ior, 1), (30, .istore_n 2, 1), (31, .iinc 3 (-1), 3), (34, .goto (-28), 3), (37, .iload_n 2, 1), (38, .ireturn, 1)]
def m_Pl_rootsOf : gp_M := (⟨"GoldPlate$Plate", "rootsOf", "(I)I"⟩, prog_7_method_7_code, 4, (some .int), 0, 0, 5, 1, cd_Pl_rootsOf)
def cd_Pl_canSee : List (Nat × Instr × Nat) := [(0, .aload_n 2, 1), (1, .getfield 51, 3), (4, .aload_n 1, 1), (5, .getfield 54, 3), (8, .iconst (-1), 1), (9, .ixor, 1), (10, .iand, 1), (11, .ifCond .ne 15, 3), (14, .aload_n 0, 1), (15, .aload_n 2, 1), (16, .invokevirtual 38, 3), (19, .ifCond .le 7, 3), (22, .iconst 1, 1), (23, .goto 4, 3), (26, .iconst 0, 1), (27, .ireturn, 1)]
def m_Pl_canSee : gp_M := (⟨"GoldPlate$Plate", "canSee", "(LGoldPlate$Mind;LGoldPlate$Mark;)Z"⟩, prog_7_method_8_code, 3, (some .boolean), 0, 0, 5, 2, cd_Pl_canSee)
def cd_Pl_isAble : List (Nat × Instr × Nat) := [(0, .aload_n 0, 1), (1, .getfield 11, 3), (4, .iload_n 2, 1), (5, .aaload, 1), (6, .astore 5, 2), (8, .iload_n 2, 1), (9, .iload 4, 2), (11, .if_icmp .ne 20, 3), (14, .sipush 999, 3), (17, .aload 5, 2), (19, .getfield 29, 3), (22, .bipush 100, 2), (24, .iadd, 1), (25, .invokestatic 57, 3), (28, .goto 8, 3), (31, .aload 5, 2), (33, .getfield 29, 3), (36, .istore 6, 2), (38, .aload 5, 2), (40, .getfield 51, 3), (43, .aload_n 1, 1), (44, .getfield 54, 3), (47, .iconst (-1), 1), (48, .ixor, 1), (49, .iand, 1), (50, .ifCond .ne 40, 3), (53, .aload 5, 2), (55, .getfield 60, 3), (58, .aload_n 1, 1), (59, .getfield 63, 3), (62, .iconst (-1), 1), (63, .ixor, 1), (64, .iand, 1), (65, .ifCond .ne 25, 3), (68, .iload 6, 2), (70, .iload_n 3, 1), (71, .aload_n 0, 1), (72, .getfield 17, 3), (75, .aload 5, 2), (77, .getfield 35, 3), (80, .iaload, 1), (81, .imul, 1), (82, .isub, 1), (83, .ifCond .le 7, 3), (86, .iconst 1, 1), (87, .goto 4, 3), (90, .iconst 0, 1), (91, .ireturn, 1)]
def m_Pl_isAble : gp_M := (⟨"GoldPlate$Plate", "isAble", "(LGoldPlate$Mind;III)Z"⟩, prog_7_method_9_code, 7, (some .boolean), 0, 0, 5, 4, cd_Pl_isAble)
def cd_Pl_rights : List (Nat × Instr × Nat) := [(0, .iconst 0, 1), (1, .istore 5, 2), (3, .iconst 0, 1), (4, .istore 6, 2), (6, .iload 6, 2), (8, .aload_n 0, 1), (9, .getfield 25, 3), (12, .if_icmp .ge 71, 3), (15, .iload_n 1, 1), (16, .iload 6, 2), (18, .ishr, 1), (19, .iconst 1, 1), (20, .iand, 1), (21, .iconst 1, 1), (22, .if_icmp .ne 25, 3), (25, .aload_n 0, 1), (26, .getfield 11, 3), (29, .iload 6, 2), (31, .aaload, 1), (32, .getfield 42, 3), (35, .iload 5, 2), (37, .iconst (-1), 1), (38, .ixor, 1), (39, .iand, 1), (40, .ifCond .ne 7, 3), (43, .iconst 1, 1), (44, .goto 4, 3), (47, .iconst 0, 1), (48, .istore 7, 2), (50, .iload 7, 2), (52, .ifCond .eq 25, 3), (55, .aload_n 0, 1), (56, .aload_n 2, 1), (57, .iload 6, 2), (59, .iload_n 3, 1), (60, .iload 4, 2), (62, .invokevirtual 64, 3), (65, .ifCond .eq 12, 3), (68, .iload 5, 2), (70, .iconst 1, 1), (71, .iload 6, 2), (73, .ishl, 1), (74, .ior, 1), (75, .istore 5, 2), (77, .iinc 6 1, 3), (80, .goto (-74), 3), (83, .iload 5, 2), (85, .ireturn, 1)]
def m_Pl_rights : gp_M := (⟨"GoldPlate$Plate", "rights", "(ILGoldPlate$Mind;II)I"⟩, prog_7_method_10_code, 8, (some .int), 0, 0, 5, 4, cd_Pl_rights)
def cd_Pl_thingsOf : List (Nat × Instr × Nat) := [(0, .iconst 0, 1), (1, .istore_n 2, 1), (2, .iconst 0, 1), (3, .istore_n 3, 1), (4, .iload_n 3, 1), (5, .aload_n 0, 1), (6, .getfield 25, 3), (9, .if_icmp .ge 32, 3), (12, .iload_n 1, 1), (13, .iload_n 3, 1), (14, .ishr, 1), (15, .iconst 1, 1), (16, .iand, 1), (17, .iconst 1, 1), (18, .if_icmp .ne 17, 3), (21, .iload_n 2, 1), (22, .iconst 1, 1), (23, .aload_n 0, 1), (24, .getfield 11, 3), (27, .iload_n 3, 1), (28, .aaload, 1), (29, .getfield 68, 3), (32, .ishl, 1), (33, .ior, 1), (34, .istore_n 2, 1), (35, .iinc 3 1, 3), (38, .goto (-34), 3), (41, .iload_n 2, 1), (42, .ireturn, 1)]
def m_Pl_thingsOf : gp_M := (⟨"GoldPlate$Plate", "thingsOf", "(I)I"⟩, prog_7_method_11_code, 4, (some .int), 0, 0, 5, 1, cd_Pl_thingsOf)
def cd_Se_init : List (Nat × Instr × Nat) := [(0, .aload_n 0, 1), (1, .invokespecial 3, 3), (4, .aload_n 0, 1), (5, .bipush 10, 2), (7, .newarray .int, 2), (9, .putfield 9, 3), (12, .aload_n 0, 1), (13, .bipush 10, 2), (15, .newarray .int, 2), (17, .putfield 15, 3), (20, .aload_n 0, 1), (21, .bipush 60, 2), (23, .newarray .int, 2), (25, .putfield 18, 3), (28, .aload_n 0, 1), (29, .bipush 11, 2), (31, .newarray .int, 2), (33, .putfield 21, 3), (36, .aload_n 0, 1), (37, .bipush 10, 2), (39, .newarray .int, 2), (41, .putfield 24, 3), (44, .aload_n 0, 1), (45, .bipush 10, 2), (47, .newarray .int, 2), (49, .putfield 27, 3), (52, .aload_n 0, 1), (53, .aload_n 1, 1), (54, .putfield 30, 3), (57, .aload_n 0, 1), (58, .aload_n 2, 1), (59, .putfield 34, 3), (62, .return_, 1)]
def m_Se_init : gp_M := (⟨"GoldPlate$Search", "<init>", "(LGoldPlate$Plate;LGoldPlate$Sums;)V"⟩, prog_8_method_1_code, 3, none, 6, 111, 6, 2, cd_Se_init)
def cd_Se_setUp : List (Nat × Instr × Nat) := [(0, .aload_n 0, 1), (1, .iload_n 3, 1), (2, .bipush 10, 2), (4, .invokestatic 38, 3), (7, .putfield 44, 3), (10, .iconst 0, 1), (11, .istore 5, 2), (13, .iconst 0, 1), (14, .istore 6, 2), (16, .iload 6, 2), (18, .aload_n 0, 1), (19, .getfield 44, 3), (22, .if_icmp .ge 74, 3), (25, .aload_n 0, 1), (26, .getfield 9, 3), (29, .iload 6, 2), (31, .lload_n 1, 1), (32, .iload 6, 2), (34, .invokestatic 48, 3), (37, .iastore, 1), (38, .aload_n 0, 1), (39, .getfield 15, 3), (42, .iload 6, 2), (44, .aload_n 0, 1), (45, .aload_n 0, 1), (46, .getfield 30, 3), (49, .getfield 52, 3), (52, .aload_n 0, 1), (53, .getfield 9, 3), (56, .iload 6, 2), (58, .iaload, 1), (59, .aaload, 1), (60, .aload 4, 2), (62, .iload 5, 2), (64, .invokevirtual 57, 3), (67, .iastore, 1), (68, .iload 5, 2), (70, .iconst 1, 1), (71, .aload_n 0, 1), (72, .getfield 9, 3), (75, .iload 6, 2), (77, .iaload, 1), (78, .ishl, 1), (79, .ior, 1), (80, .istore 5, 2), (82, .aload_n 0, 1), (83, .iload 6, 2), (85, .aload 4, 2), (87, .invokevirtual 61, 3), (90, .iinc 6 1, 3), (93, .goto (-77), 3), (96, .aload_n 0, 1), (97, .invokevirtual 65, 3), (100, .return_, 1)]
def m_Se_setUp : gp_M := (⟨"GoldPlate$Search", "setUp", "(JILGoldPlate$Mind;)V"⟩, prog_8_method_2_code, 7, none, 0, 0, 6, 3, cd_Se_setUp)
def cd_Se_takingsOf : List (Nat × Instr × Nat) := [(0, .aload_n 0, 1), (1, .getfield 30, 3), (4, .aload_n 2, 1), (5, .aload_n 1, 1), (6, .invokevirtual 68, 3), (9, .ifCond .ne 5, 3), (12, .iconst 1, 1), (13, .ireturn, 1), (14, .aload_n 1, 1), (15, .getfield 72, 3), (18, .aload_n 2, 1), (19, .getfield 77, 3), (22, .iconst (-1), 1), (23, .ixor, 1), (24, .iand, 1), (25, .ifCond .ne 18, 3), (28, .aload_n 1, 1), (29, .getfield 80, 3), (32, .iload_n 3, 1), (33, .iconst (-1), 1), (34, .ixor, 1), (35, .iand, 1), (36, .ifCond .ne 7, 3), (39, .iconst 1, 1), (40, .goto 4, 3), (43, .iconst 0, 1), (44, .istore 4, 2), (46, .iconst 1, 1), (47, .iload 4, 2), (49, .ifCond .eq 7, 3), (52, .iconst 2, 1), (53, .goto 4, 3), (56, .iconst 0, 1), (57, .ior, 1), (58, .aload_n 1, 1), (59, .getfield 83, 3), (62, .iconst (-1), 1), (63, .if_icmp .eq 7, 3), (66, .iconst 4, 1), (67, .goto 4, 3), (70, .iconst 0, 1), (71, .ior, 1), (72, .aload_n 1, 1), (73, .getfield 86, 3), (76, .iconst (-1), 1), (77, .if_icmp .eq 8, 3), (80, .bipush 8, 2), (82, .goto 4, 3), (85, .iconst 0, 1), (86, .ior, 1), (87, .ireturn, 1)]
def m_Se_takingsOf : gp_M := (⟨"GoldPlate$Search", "takingsOf", "(LGoldPlate$Mark;LGoldPlate$Mind;I)I"⟩, prog_8_method_3_code, 5, (some .int), 0, 0, 6, 3, cd_Se_takingsOf)
def cd_Se_priceAll : List (Nat × Instr × Nat) := [(0, .aload_n 0, 1), (1, .getfield 30, 3), (4, .getfield 52, 3), (7, .aload_n 0, 1), (8, .getfield 9, 3), (11, .iload_n 1, 1), (12, .iaload, 1), (13, .aaload, 1), (14, .astore_n 3, 1), (15, .aload_n 0, 1), (16, .getfield 34, 3), (19, .invokevirtual 89, 3), (22, .aload_n 0, 1), (23, .getfield 34, 3), (26, .getfield 94, 3), (29, .iconst 0, 1), (30, .aload_n 3, 1), (31, .getfield 97, 3), (34, .iastore, 1), (35, .aload_n 0, 1), (36, .getfield 34, 3), (39, .getfield 94, 3), (42, .iconst 1, 1), (43, .aload_n 3, 1), (44, .getfield 100, 3), (47, .iastore, 1), (48, .aload_n 0, 1), (49, .getfield 34, 3), (52, .getfield 94, 3), (55, .iconst 2, 1), (56, .iconst 0, 1), (57, .aload_n 0, 1), (58, .getfield 30, 3), (61, .aload_n 3, 1), (62, .invokevirtual 103, 3), (65, .invokestatic 107, 3), (68, .iastore, 1), (69, .aload_n 0, 1), (70, .getfield 34, 3), (73, .getfield 94, 3), (76, .iconst 3, 1), (77, .aload_n 0, 1), (78, .getfield 30, 3), (81, .aload_n 3, 1), (82, .invokevirtual 110, 3), (85, .iconst 1, 1), (86, .if_icmp .ne 7, 3), (89, .iconst 1, 1), (90, .goto 4, 3), (93, .iconst 0, 1), (94, .iastore, 1), (95, .aload_n 0, 1), (96, .getfield 34, 3), (99, .getfield 94, 3), (102, .iconst 5, 1), (103, .iload_n 1, 1), (104, .iastore, 1), (105, .iload_n 1, 1), (106, .bipush 6, 2), (108, .imul, 1), (109, .istore 4, 2), (111, .iconst 0, 1), (112, .istore 5, 2), (114, .iload 5, 2), (116, .bipush 6, 2), (118, .if_icmp .ge 92, 3), (121, .aload_n 0, 1), (122, .getfield 34, 3), (125, .getfield 94, 3), (128, .bipush 7, 2), (130, .iload 5, 2), (132, .iconst 2, 1), (133, .if_icmp .ge 7, 3), (136, .iconst 1, 1), (137, .goto 4, 3), (140, .iconst 0, 1), (141, .iastore, 1), (142, .aload_n 0, 1), (143, .getfield 34, 3), (146, .getfield 94, 3), (149, .iconst 4, 1), (150, .iload 5, 2), (152, .iconst 4, 1), (153, .if_icmp .lt 7, 3), (156, .iconst 1, 1), (157, .goto 4, 3), (160, .iconst 0, 1), (161, .iastore, 1), (162, .aload_n 0, 1), (163, .getfield 34, 3), (166, .getfield 94, 3), (169, .bipush 6, 2), (171, .iload 5, 2), (173, .iconst 2, 1), (174, .if_icmp .lt 10, 3), (177, .iload 5, 2), (179, .iconst 1, 1), (180, .iand, 1), (181, .goto 4, 3), (184, .iconst 0, 1), (185, .iastore, 1), (186, .aload_n 0, 1), (187, .getfield 18, 3), (190, .iload 4, 2), (192, .iload 5, 2), (194, .iadd, 1), (195, .aload_n 2, 1), (196, .aload_n 0, 1), (197, .getfield 34, 3), (200, .invokevirtual 113, 3), (203, .iastore, 1), (204, .iinc 5 1, 3), (207, .goto (-93), 3), (210, .return_, 1)]
def m_Se_priceAll : gp_M := (⟨"GoldPlate$Search", "priceAll", "(ILGoldPlate$Mind;)V"⟩, prog_8_method_4_code, 6, none, 0, 0, 6, 2, cd_Se_priceAll)
def cd_Se_setFloors : List (Nat × Instr × Nat) := [(0, .aload_n 0, 1), (1, .getfield 21, 3), (4, .aload_n 0, 1), (5, .getfield 44, 3), (8, .iconst 0, 1), (9, .iastore, 1), (10, .aload_n 0, 1), (11, .getfield 44, 3), (14, .iconst 1, 1), (15, .isub, 1), (16, .istore_n 1, 1), (17, .iload_n 1, 1), (18, .ifCond .lt 108, 3), (21, .iload_n 1, 1), (22, .bipush 6, 2), (24, .imul, 1), (25, .istore_n 2, 1), (26, .aload_n 0, 1), (27, .getfield 18, 3), (30, .iload_n 2, 1), (31, .iaload, 1), (32, .istore_n 3, 1), (33, .aload_n 0, 1), (34, .getfield 15, 3), (37, .iload_n 1, 1), (38, .iaload, 1), (39, .iconst 2, 1), (40, .iand, 1), (41, .ifCond .eq 27, 3), (44, .iload_n 3, 1), (45, .aload_n 0, 1), (46, .getfield 18, 3), (49, .iload_n 2, 1), (50, .iconst 2, 1), (51, .iadd, 1), (52, .iaload, 1), (53, .aload_n 0, 1), (54, .getfield 18, 3), (57, .iload_n 2, 1), (58, .iconst 3, 1), (59, .iadd, 1), (60, .iaload, 1), (61, .invokestatic 38, 3), (64, .invokestatic 38, 3), (67, .istore_n 3, 1), (68, .aload_n 0, 1), (69, .getfield 15, 3), (72, .iload_n 1, 1), (73, .iaload, 1), (74, .bipush 12, 2), (76, .iand, 1), (77, .ifCond .eq 27, 3), (80, .iload_n 3, 1), (81, .aload_n 0, 1), (82, .getfield 18, 3), (85, .iload_n 2, 1), (86, .iconst 4, 1), (87, .iadd, 1), (88, .iaload, 1), (89, .aload_n 0, 1), (90, .getfield 18, 3), (93, .iload_n 2, 1), (94, .iconst 5, 1), (95, .iadd, 1), (96, .iaload, 1), (97, .invokestatic 38, 3), (100, .invokestatic 38, 3), (103, .istore_n 3, 1), (104, .aload_n 0, 1), (105, .getfield 21, 3), (108, .iload_n 1, 1), (109, .aload_n 0, 1), (110, .getfield 21, 3), (113, .iload_n 1, 1), (114, .iconst 1, 1), (115, .iadd, 1), (116, .iaload, 1), (117, .iload_n 3, 1), (118, .iadd, 1), (119, .iastore, 1), (120, .iinc 1 (-1), 3), (123, .goto (-106), 3), (126, .return_, 1)]
def m_Se_setFloors : gp_M := (⟨"GoldPlate$Search", "setFloors", "()V"⟩, prog_8_method_5_code, 4, none, 0, 0, 6, 0, cd_Se_setFloors)
def cd_Se_countUpTo : List (Nat × Instr × Nat) := [(0, .aload_n 0, 1), (1, .iconst 1, 1), (2, .putfield 117, 3), (5, .aload_n 0, 1), (6, .iconst 0, 1), (7, .putfield 121, 3), (10, .aload_n 0, 1), (11, .iload_n 1, 1), (12, .putfield 124, 3), (15, .aload_n 0, 1), (16, .getfield 21, 3), (19, .iconst 0, 1), (20, .iaload, 1), (21, .aload_n 0, 1), (22, .getfield 124, 3), (25, .if_icmp .gt 11, 3), (28, .aload_n 0, 1), (29, .iconst 0, 1), (30, .iconst 0, 1), (31, .iconst 0, 1), (32, .iconst 0, 1), (33, .invokevirtual 127, 3), (36, .aload_n 0, 1), (37, .getfield 121, 3), (40, .ireturn, 1)]
def m_Se_countUpTo : gp_M := (⟨"GoldPlate$Search", "countUpTo", "(I)I"⟩, prog_8_method_6_code, 2, (some .int), 0, 0, 6, 1, cd_Se_countUpTo)
def cd_Se_findCheapest : List (Nat × Instr × Nat) := [(0, .aload_n 0, 1), (1, .iconst 0, 1), (2, .putfield 117, 3), (5, .aload_n 0, 1), (6, .sipush 9990, 3), (9, .putfield 124, 3), (12, .aload_n 0, 1), (13, .iconst 0, 1), (14, .iconst 0, 1), (15, .iconst 0, 1), (16, .iconst 0, 1), (17, .invokevirtual 127, 3), (20, .return_, 1)]
def m_Se_findCheapest : gp_M := (⟨"GoldPlate$Search", "findCheapest", "()V"⟩, prog_8_method_7_code, 1, none, 0, 0, 6, 0, cd_Se_findCheapest)
def cd_Se_walk : List (Nat × Instr × Nat) := [(0, .iload_n 1, 1), (1, .aload_n 0, 1), (2, .getfield 44, 3), (5, .if_icmp .lt 9, 3), (8, .aload_n 0, 1), (9, .iload_n 2, 1), (10, .invokevirtual 131, 3), (13, .return_, 1), (14, .aload_n 0, 1), (15, .getfield 30, 3), (18, .getfield 52, 3), (21, .aload_n 0, 1), (22, .getfield 9, 3), (25, .iload_n 1, 1), (26, .iaload, 1), (27, .aaload, 1), (28, .astore 5, 2), (30, .iconst 0, 1), (31, .istore 6, 2), (33, .iload 6, 2), (35, .iconst 4, 1), (36, .if_icmp .ge 183, 3), (39, .aload_n 0, 1), (40, .getfield 15, 3), (43, .iload_n 1, 1), (44, .iaload, 1), (45, .iload 6, 2), (47, .ishr, 1), (48, .iconst 1, 1), (49, .iand, 1), (50, .iconst 1, 1), (51, .if_icmp .ne 26, 3), (54, .iload 6, 2), (56, .iconst 1, 1), (57, .if_icmp .ne 16, 3), (60, .aload 5, 2), (62, .getfield 80, 3), (65, .iload 4, 2), (67, .iconst (-1), 1), (68, .ixor, 1), (69, .iand, 1), (70, .ifCond .ne 7, 3), (73, .iconst 1, 1), (74, .goto 4, 3), (77, .iconst 0, 1), (78, .istore 7, 2), (80, .iload 6, 2), (82, .ifCond .eq 8, 3), (85, .iload 7, 2), (87, .ifCond .ne 7, 3), (90, .iconst 0, 1), (91, .goto 12, 3), (94, .iconst 1, 1), (95, .aload 5, 2), (97, .iload 6, 2), (99, .invokevirtual 135, 3), (102, .ishl, 1), (103, .istore 8, 2), (105, .iload_n 3, 1), (106, .iload 8, 2), (108, .iand, 1), (109, .ifCond .eq 7, 3), (112, .iconst 1, 1), (113, .goto 4, 3), (116, .iconst 0, 1), (117, .istore 9, 2), (119, .iload_n 2, 1), (120, .aload_n 0, 1), (121, .getfield 18, 3), (124, .iload_n 1, 1), (125, .bipush 6, 2), (127, .imul, 1), (128, .iconst 2, 1), (129, .iload 6, 2), (131, .iconst 2, 1), (132, .invokestatic 38, 3), (135, .imul, 1), (136, .iadd, 1), (137, .iload 9, 2), (139, .iadd, 1), (140, .iaload, 1), (141, .iadd, 1), (142, .istore 10, 2), (144, .iload 7, 2), (146, .ifCond .eq 67, 3), (149, .iload 10, 2), (151, .aload_n 0, 1), (152, .getfield 21, 3), (155, .iload_n 1, 1), (156, .iconst 1, 1), (157, .iadd, 1), (158, .iaload, 1), (159, .iadd, 1), (160, .aload_n 0, 1), (161, .getfield 124, 3), (164, .if_icmp .gt 49, 3), (167, .aload_n 0, 1), (168, .getfield 24, 3), (171, .iload_n 1, 1), (172, .iload 6, 2), (174, .iastore, 1), (175, .iload 6, 2), (177, .iconst 1, 1), (178, .if_icmp .ne 14, 3), (181, .iconst 1, 1), (182, .aload_n 0, 1), (183, .getfield 9, 3), (186, .iload_n 1, 1), (187, .iaload, 1), (188, .ishl, 1), (189, .goto 4, 3), (192, .iconst 0, 1), (193, .istore 11, 2), (195, .aload_n 0, 1), (196, .iload_n 1, 1), (197, .iconst 1, 1), (198, .iadd, 1), (199, .iload 10, 2), (201, .iload_n 3, 1), (202, .iload 8, 2), (204, .ior, 1), (205, .iload 4, 2), (207, .iload 11, 2), (209, .ior, 1), (210, .invokevirtual 127, 3), (213, .iinc 6 1, 3), (216, .goto (-183), 3), (219, .return_, 1)]
def m_Se_walk : gp_M := (⟨"GoldPlate$Search", "walk", "(IIII)V"⟩, prog_8_method_8_code, 12, none, 0, 0, 6, 4, cd_Se_walk)
def cd_Se_arrive : List (Nat × Instr × Nat) := [(0, .aload_n 0, 1), (1, .getfield 117, 3), (4, .ifCond .eq 36, 3), (7, .aload_n 0, 1), (8, .dup, 1), (9, .getfield 121, 3), (12, .iconst 1, 1), (13, .iadd, 1), (14, .putfield 121, 3), (17, .aload_n 0, 1), (18, .aload_n 0, 1), (19, .getfield 121, 3), (22, .sipush 2000, 3), (25, .if_icmp .le 7, 3), (28, .iconst (-1), 1), (29, .goto 7, 3), (32, .aload_n 0, 1), (33, .getfield 124, 3), (36, .putfield 124, 3), (39, .return_, 1), (40, .aload_n 0, 1), (41, .iload_n 1, 1), (42, .putfield 139, 3), (45, .aload_n 0, 1), (46, .iload_n 1, 1), (47, .iconst 1, 1), (48, .isub, 1), (49, .putfield 124, 3), (52, .iconst 0, 1), (53, .istore_n 2, 1), (54, .iload_n 2, 1), (55, .aload_n 0, 1), (56, .getfield 44, 3), (59, .if_icmp .ge 21, 3), (62, .aload_n 0, 1), (63, .getfield 27, 3), (66, .iload_n 2, 1), (67, .aload_n 0, 1), (68, .getfield 24, 3), (71, .iload_n 2, 1), (72, .iaload, 1), (73, .iastore, 1), (74, .iinc 2 1, 3), (77, .goto (-23), 3), (80, .return_, 1)]
def m_Se_arrive : gp_M := (⟨"GoldPlate$Search", "arrive", "(I)V"⟩, prog_8_method_9_code, 3, none, 0, 0, 6, 1, cd_Se_arrive)
def cd_Se_cheapestTaking : List (Nat × Instr × Nat) := [(0, .iload_n 1, 1), (1, .ifCond .lt 20, 3), (4, .iload_n 1, 1), (5, .aload_n 0, 1), (6, .getfield 44, 3), (9, .if_icmp .ge 12, 3), (12, .aload_n 0, 1), (13, .getfield 27, 3), (16, .iload_n 1, 1), (17, .iaload, 1), (18, .goto 4, 3), (21, .iconst (-1), 1), (22, .ireturn, 1)]
def m_Se_cheapestTaking : gp_M := (⟨"GoldPlate$Search", "cheapestTaking", "(I)I"⟩, prog_8_method_10_code, 2, (some .int), 0, 0, 6, 1, cd_Se_cheapestTaking)
def cd_Se_cheapestPacked : List (Nat × Instr × Nat) := [(0, .iconst 0, 1), (1, .istore_n 1, 1), (2, .iconst 0, 1), (3, .istore_n 2, 1), (4, .iload_n 2, 1), (5, .aload_n 0, 1), (6, .getfield 44, 3), (9, .if_icmp .ge 22, 3), (12, .iload_n 1, 1), (13, .aload_n 0, 1), (14, .getfield 27, 3), (17, .iload_n 2, 1), (18, .iaload, 1), (19, .iconst 2, 1), (20, .iload_n 2, 1), (21, .imul, 1), (22, .ishl, 1), (23, .ior, 1), (24, .istore_n 1, 1), (25, .iinc 2 1, 3), (28, .goto (-24), 3), (31, .iload_n 1, 1), (32, .ireturn, 1)]
def m_Se_cheapestPacked : gp_M := (⟨"GoldPlate$Search", "cheapestPacked", "()I"⟩, prog_8_method_11_code, 3, (some .int), 0, 0, 6, 0, cd_Se_cheapestPacked)
def cd_Se_partingPlace : List (Nat × Instr × Nat) := [(0, .iconst 0, 1), (1, .istore_n 1, 1), (2, .iload_n 1, 1), (3, .aload_n 0, 1), (4, .getfield 44, 3), (7, .if_icmp .ge 21, 3), (10, .aload_n 0, 1), (11, .getfield 27, 3), (14, .iload_n 1, 1), (15, .iaload, 1), (16, .iconst 1, 1), (17, .if_icmp .eq 5, 3), (20, .iload_n 1, 1), (21, .ireturn, 1), (22, .iinc 1 1, 3), (25, .goto (-23), 3), (28, .iconst (-1), 1), (29, .ireturn, 1)]
def m_Se_partingPlace : gp_M := (⟨"GoldPlate$Search", "partingPlace", "()I"⟩, prog_8_method_12_code, 2, (some .int), 0, 0, 6, 0, cd_Se_partingPlace)
def cd_Se_fallsFrom : List (Nat × Instr × Nat) := [(0, .iconst 0, 1), (1, .istore_n 2, 1), (2, .iload_n 1, 1), (3, .iconst 1, 1), (4, .iadd, 1), (5, .istore_n 3, 1), (6, .iload_n 3, 1), (7, .aload_n 0, 1), (8, .getfield 44, 3), (11, .if_icmp .ge 48, 3), (14, .aload_n 0, 1), (15, .getfield 27, 3), (18, .iload_n 3, 1), (19, .iaload, 1), (20, .iconst 1, 1), (21, .if_icmp .eq 32, 3), (24, .aload_n 0, 1), (25, .getfield 30, 3), (28, .aload_n 0, 1), (29, .getfield 9, 3), (32, .iload_n 3, 1), (33, .iaload, 1), (34, .invokevirtual 142, 3), (37, .aload_n 0, 1), (38, .getfield 9, 3), (41, .iload_n 1, 1), (42, .iaload, 1), (43, .ishr, 1), (44, .iconst 1, 1), (45, .iand, 1), (46, .iconst 1, 1), (47, .if_icmp .ne 6, 3), (50, .iinc 2 1, 3), (53, .iinc 3 1, 3), (56, .goto (-50), 3), (59, .iload_n 2, 1), (60, .ireturn, 1)]
def m_Se_fallsFrom : gp_M := (⟨"GoldPlate$Search", "fallsFrom", "(I)I"⟩, prog_8_method_13_code, 4, (some .int), 0, 0, 6, 1, cd_Se_fallsFrom)
def cd_Sk_init : List (Nat × Instr × Nat) := [(0, .aload_n 0, 1), (1, .invokespecial 3, 3), (4, .aload_n 0, 1), (5, .bipush 14, 2), (7, .newarray .int, 2), (9, .putfield 11, 3), (12, .aload_n 0, 1), (13, .bipush 14, 2), (15, .newarray .int, 2), (17, .putfield 15, 3), (20, .aload_n 0, 1), (21, .bipush 14, 2), (23, .newarray .int, 2), (25, .putfield 18, 3), (28, .aload_n 0, 1), (29, .bipush 14, 2), (31, .newarray .int, 2), (33, .putfield 21, 3), (36, .aload_n 0, 1), (37, .bipush 14, 2), (39, .newarray .int, 2), (41, .putfield 24, 3), (44, .aload_n 0, 1), (45, .bipush 14, 2), (47, .newarray .int, 2), (49, .putfield 27, 3), (52, .aload_n 0, 1), (53, .bipush 14, 2), (55, .newarray .int, 2), (57, .putfield 30, 3), (60, .return_, 1)]
def m_Sk_init : gp_M := (⟨"GoldPlate$Sky", "<init>", "()V"⟩, prog_9_method_1_code, 1, none, 7, 98, 7, 0, cd_Sk_init)
def cd_Sk_add : List (Nat × Instr × Nat) := [(0, .aload_n 0, 1), (1, .getfield 33, 3), (4, .bipush 14, 2), (6, .if_icmp .lt 5, 3), (9, .iconst (-1), 1), (10, .ireturn, 1), (11, .aload_n 0, 1), (12, .getfield 11, 3), (15, .aload_n 0, 1), (16, .getfield 33, 3), (19, .iload_n 1, 1), (20, .iastore, 1), (21, .aload_n 0, 1), (22, .getfield 15, 3), (25, .aload_n 0, 1), (26, .getfield 33, 3), (29, .iload_n 2, 1), (30, .iastore, 1), (31, .aload_n 0, 1), (32, .getfield 18, 3), (35, .aload_n 0, 1), (36, .getfield 33, 3), (39, .iload_n 3, 1), (40, .iastore, 1), (41, .aload_n 0, 1), (42, .getfield 21, 3), (45, .aload_n 0, 1), (46, .getfield 33, 3), (49, .iload 4, 2), (51, .iastore, 1), (52, .aload_n 0, 1), (53, .getfield 24, 3), (56, .aload_n 0, 1), (57, .getfield 33, 3), (60, .iconst (-1), 1), (61, .iastore, 1), (62, .aload_n 0, 1), (63, .dup, 1), (64, .getfield 33, 3), (67, .iconst 1, 1), (68, .iadd, 1), (69, .putfield 33, 3), (72, .aload_n 0, 1), (73, .getfield 33, 3), (76, .iconst 1, 1), (77, .isub, 1), (78, .ireturn, 1)]
def m_Sk_add : gp_M := (⟨"GoldPlate$Sky", "add", "(IIII)I"⟩, prog_9_method_2_code, 5, (some .int), 0, 0, 7, 4, cd_Sk_add)
def cd_Sk_has : List (Nat × Instr × Nat) := [(0, .iload_n 1, 1), (1, .ifCond .lt 15, 3), (4, .iload_n 1, 1), (5, .aload_n 0, 1), (6, .getfield 33, 3), (9, .if_icmp .ge 7, 3), (12, .iconst 1, 1), (13, .goto 4, 3), (16, .iconst 0, 1), (17, .ireturn, 1)]
def m_Sk_has : gp_M := (⟨"GoldPlate$Sky", "has", "(I)Z"⟩, prog_9_method_3_code, 2, (some .boolean), 0, 0, 7, 1, cd_Sk_has)
def cd_Sk_countYears : List (Nat × Instr × Nat) := [(0, .aload_n 0, 1), (1, .iconst 0, 1), (2, .putfield 37, 3), (5, .aload_n 0, 1), (6, .iconst (-1), 1), (7, .putfield 40, 3), (10, .aload_n 0, 1), (11, .iconst (-1), 1), (12, .putfield 43, 3), (15, .aload_n 0, 1), (16, .invokevirtual 46, 3), (19, .istore_n 1, 1), (20, .iconst 0, 1), (21, .istore_n 2, 1), (22, .iload_n 2, 1), (23, .sipush 1000, 3), (26, .if_icmp .ge 55, 3), (29, .iload_n 1, 1), (30, .ifCond .eq 45, 3), (33, .aload_n 0, 1), (34, .iload_n 2, 1), (35, .invokevirtual 50, 3), (38, .ifCond .eq 37, 3), (41, .aload_n 0, 1), (42, .aload_n 0, 1), (43, .getfield 37, 3), (46, .ifCond .ne 7, 3), (49, .iload_n 2, 1), (50, .goto 7, 3), (53, .aload_n 0, 1), (54, .getfield 40, 3), (57, .putfield 40, 3), (60, .aload_n 0, 1), (61, .iload_n 2, 1), (62, .putfield 43, 3), (65, .aload_n 0, 1), (66, .dup, 1), (67, .getfield 37, 3), (70, .iconst 1, 1), (71, .iadd, 1), (72, .putfield 37, 3), (75, .iinc 2 1, 3), (78, .goto (-56), 3), (81, .return_, 1)]
def m_Sk_countYears : gp_M := (⟨"GoldPlate$Sky", "countYears", "()V"⟩, prog_9_method_4_code, 3, none, 0, 0, 7, 0, cd_Sk_countYears)
def cd_Sk_anyFound : List (Nat × Instr × Nat) := [(0, .iconst 0, 1), (1, .istore_n 1, 1), (2, .iload_n 1, 1), (3, .aload_n 0, 1), (4, .getfield 33, 3), (7, .if_icmp .ge 21, 3), (10, .aload_n 0, 1), (11, .getfield 24, 3), (14, .iload_n 1, 1), (15, .iaload, 1), (16, .iconst (-1), 1), (17, .if_icmp .eq 5, 3), (20, .iconst 1, 1), (21, .ireturn, 1), (22, .iinc 1 1, 3), (25, .goto (-23), 3), (28, .iconst 0, 1), (29, .ireturn, 1)]
def m_Sk_anyFound : gp_M := (⟨"GoldPlate$Sky", "anyFound", "()Z"⟩, prog_9_method_5_code, 2, (some .boolean), 0, 0, 7, 0, cd_Sk_anyFound)
def cd_Sk_fitsAll : List (Nat × Instr × Nat) := [(0, .iconst 0, 1), (1, .istore_n 2, 1), (2, .iload_n 2, 1), (3, .aload_n 0, 1), (4, .getfield 33, 3), (7, .if_icmp .ge 30, 3), (10, .aload_n 0, 1), (11, .getfield 24, 3), (14, .iload_n 2, 1), (15, .iaload, 1), (16, .iconst (-1), 1), (17, .if_icmp .eq 14, 3), (20, .aload_n 0, 1), (21, .iload_n 2, 1), (22, .iload_n 1, 1), (23, .invokevirtual 54, 3), (26, .ifCond .ne 5, 3), (29, .iconst 0, 1), (30, .ireturn, 1), (31, .iinc 2 1, 3), (34, .goto (-32), 3), (37, .iconst 1, 1), (38, .ireturn, 1)]
def m_Sk_fitsAll : gp_M := (⟨"GoldPlate$Sky", "fitsAll", "(I)Z"⟩, prog_9_method_6_code, 3, (some .boolean), 0, 0, 7, 1, cd_Sk_fitsAll)
def cd_Sk_fits : List (Nat × Instr × Nat) := [(0, .aload_n 0, 1), (1, .getfield 11, 3), (4, .iload_n 1, 1), (5, .iaload, 1), (6, .i2l, 1), (7, .aload_n 0, 1), (8, .getfield 15, 3), (11, .iload_n 1, 1), (12, .iaload, 1), (13, .i2l, 1), (14, .lmul, 1), (15, .iload_n 2, 1), (16, .i2l, 1), (17, .lmul, 1), (18, .ldc2_w 58, 3), (21, .ldiv, 1), (22, .lstore_n 3, 1), (23, .aload_n 0, 1), (24, .getfield 11, 3), (27, .iload_n 1, 1), (28, .iaload, 1), (29, .i2l, 1), (30, .lload_n 3, 1), (31, .ladd, 1), (32, .lstore 5, 2), (34, .lload 5, 2), (36, .aload_n 0, 1), (37, .getfield 24, 3), (40, .iload_n 1, 1), (41, .iaload, 1), (42, .i2l, 1), (43, .lcmp, 1), (44, .ifCond .lt 20, 3), (47, .lload 5, 2), (49, .aload_n 0, 1), (50, .getfield 27, 3), (53, .iload_n 1, 1), (54, .iaload, 1), (55, .i2l, 1), (56, .lcmp, 1), (57, .ifCond .gt 7, 3), (60, .iconst 1, 1), (61, .goto 4, 3), (64, .iconst 0, 1), (65, .ireturn, 1)]
def m_Sk_fits : gp_M := (⟨"GoldPlate$Sky", "fits", "(II)Z"⟩, prog_9_method_7_code, 7, (some .boolean), 0, 0, 7, 2, cd_Sk_fits)
def cd_Sk_countPlaces : List (Nat × Instr × Nat) := [(0, .aload_n 0, 1), (1, .iconst 0, 1), (2, .putfield 60, 3), (5, .aload_n 0, 1), (6, .iconst (-1), 1), (7, .putfield 63, 3), (10, .iconst 0, 1), (11, .istore_n 2, 1), (12, .iload_n 2, 1), (13, .sipush 1600, 3), (16, .if_icmp .ge 54, 3), (19, .aload_n 0, 1), (20, .iload_n 2, 1), (21, .bipush 40, 2), (23, .irem, 1), (24, .iload_n 2, 1), (25, .bipush 40, 2), (27, .idiv, 1), (28, .iload_n 1, 1), (29, .invokevirtual 66, 3), (32, .ifCond .eq 32, 3), (35, .aload_n 0, 1), (36, .aload_n 0, 1), (37, .getfield 60, 3), (40, .ifCond .ne 7, 3), (43, .iload_n 2, 1), (44, .goto 7, 3), (47, .aload_n 0, 1), (48, .getfield 63, 3), (51, .putfield 63, 3), (54, .aload_n 0, 1), (55, .dup, 1), (56, .getfield 60, 3), (59, .iconst 1, 1), (60, .iadd, 1), (61, .putfield 60, 3), (64, .iinc 2 1, 3), (67, .goto (-55), 3), (70, .return_, 1)]
def m_Sk_countPlaces : gp_M := (⟨"GoldPlate$Sky", "countPlaces", "(I)V"⟩, prog_9_method_8_code, 3, none, 0, 0, 7, 1, cd_Sk_countPlaces)
def cd_Sk_isPlace : List (Nat × Instr × Nat) := [(0, .iconst 0, 1), (1, .istore 4, 2), (3, .iload 4, 2), (5, .aload_n 0, 1), (6, .getfield 33, 3), (9, .if_icmp .ge 72, 3), (12, .iload_n 1, 1), (13, .aload_n 0, 1), (14, .getfield 18, 3), (17, .iload 4, 2), (19, .iaload, 1), (20, .isub, 1), (21, .istore 5, 2), (23, .iload_n 2, 1), (24, .aload_n 0, 1), (25, .getfield 21, 3), (28, .iload 4, 2), (30, .iaload, 1), (31, .isub, 1), (32, .istore 6, 2), (34, .iload 5, 2), (36, .iload 5, 2), (38, .imul, 1), (39, .iload 6, 2), (41, .iload 6, 2), (43, .imul, 1), (44, .iadd, 1), (45, .istore 7, 2), (47, .aload_n 0, 1), (48, .getfield 30, 3), (51, .iload 4, 2), (53, .iaload, 1), (54, .ifCond .eq 21, 3), (57, .iload 7, 2), (59, .aload_n 0, 1), (60, .getfield 30, 3), (63, .iload 4, 2), (65, .iaload, 1), (66, .iload_n 3, 1), (67, .invokestatic 70, 3), (70, .ifCond .ne 5, 3), (73, .iconst 0, 1), (74, .ireturn, 1), (75, .iinc 4 1, 3), (78, .goto (-75), 3), (81, .iconst 1, 1), (82, .ireturn, 1)]
def m_Sk_isPlace : gp_M := (⟨"GoldPlate$Sky", "isPlace", "(III)Z"⟩, prog_9_method_9_code, 8, (some .boolean), 0, 0, 7, 3, cd_Sk_isPlace)
def cd_Sk_isAbout : List (Nat × Instr × Nat) := [(0, .iconst 0, 1), (1, .iload_n 1, 1), (2, .iload_n 2, 1), (3, .isub, 1), (4, .invokestatic 73, 3), (7, .istore_n 3, 1), (8, .iload_n 1, 1), (9, .iload_n 2, 1), (10, .iadd, 1), (11, .iconst 1, 1), (12, .iadd, 1), (13, .istore 4, 2), (15, .iload_n 0, 1), (16, .iload_n 3, 1), (17, .iload_n 3, 1), (18, .imul, 1), (19, .if_icmp .lt 16, 3), (22, .iload_n 0, 1), (23, .iload 4, 2), (25, .iload 4, 2), (27, .imul, 1), (28, .if_icmp .ge 7, 3), (31, .iconst 1, 1), (32, .goto 4, 3), (35, .iconst 0, 1), (36, .ireturn, 1)]
def m_Sk_isAbout : gp_M := (⟨"GoldPlate$Sky", "isAbout", "(III)Z"⟩, prog_9_method_10_code, 5, (some .boolean), 0, 0, 7, 3, cd_Sk_isAbout)
def cd_Su_init : List (Nat × Instr × Nat) := [(0, .aload_n 0, 1), (1, .invokespecial 1, 3), (4, .aload_n 0, 1), (5, .bipush 13, 2), (7, .newarray .int, 2), (9, .putfield 9, 3), (12, .aload_n 0, 1), (13, .bipush 64, 2), (15, .newarray .int, 2), (17, .putfield 13, 3), (20, .return_, 1)]
def m_Su_init : gp_M := (⟨"GoldPlate$Sums", "<init>", "()V"⟩, prog_10_method_1_code, 1, none, 2, 77, 8, 0, cd_Su_init)
def cd_Su_clear : List (Nat × Instr × Nat) := [(0, .iconst 0, 1), (1, .istore_n 1, 1), (2, .iload_n 1, 1), (3, .bipush 13, 2), (5, .if_icmp .ge 16, 3), (8, .aload_n 0, 1), (9, .getfield 9, 3), (12, .iload_n 1, 1), (13, .iconst 0, 1), (14, .iastore, 1), (15, .iinc 1 1, 3), (18, .goto (-16), 3), (21, .return_, 1)]
def m_Su_clear : gp_M := (⟨"GoldPlate$Sums", "clear", "()V"⟩, prog_10_method_2_code, 2, none, 0, 0, 8, 0, cd_Su_clear)
def cd_Su_work : List (Nat × Instr × Nat) := [(0, .aload_n 0, 1), (1, .iconst 0, 1), (2, .putfield 16, 3), (5, .iload_n 2, 1), (6, .istore 4, 2), (8, .iload 4, 2), (10, .iload_n 3, 1), (11, .if_icmp .ge 33, 3), (14, .iload 4, 2), (16, .aload_n 1, 1), (17, .arraylength, 1), (18, .if_icmp .ge 26, 3), (21, .aload_n 0, 1), (22, .aload_n 1, 1), (23, .iload 4, 2), (25, .iaload, 1), (26, .bipush 15, 2), (28, .iand, 1), (29, .aload_n 1, 1), (30, .iload 4, 2), (32, .iaload, 1), (33, .iconst 4, 1), (34, .ishr, 1), (35, .invokevirtual 20, 3), (38, .iinc 4 1, 3), (41, .goto (-33), 3), (44, .aload_n 0, 1), (45, .getfield 16, 3), (48, .ifCond .le 17, 3), (51, .aload_n 0, 1), (52, .getfield 13, 3), (55, .aload_n 0, 1), (56, .getfield 16, 3), (59, .iconst 1, 1), (60, .isub, 1), (61, .iaload, 1), (62, .goto 4, 3), (65, .iconst 0, 1), (66, .ireturn, 1)]
def m_Su_work : gp_M := (⟨"GoldPlate$Sums", "work", "([III)I"⟩, prog_10_method_3_code, 5, (some .int), 0, 0, 8, 3, cd_Su_work)
def cd_Su_step : List (Nat × Instr × Nat) := [(0, .iload_n 1, 1), (1, .iconst 1, 1), (2, .if_icmp .gt 75, 3), (5, .aload_n 0, 1), (6, .getfield 16, 3), (9, .aload_n 0, 1), (10, .getfield 13, 3), (13, .arraylength, 1), (14, .if_icmp .ge 63, 3), (17, .iload_n 2, 1), (18, .ifCond .lt 13, 3), (21, .iload_n 2, 1), (22, .bipush 13, 2), (24, .if_icmp .ge 7, 3), (27, .iconst 1, 1), (28, .goto 4, 3), (31, .iconst 0, 1), (32, .istore_n 3, 1), (33, .aload_n 0, 1), (34, .getfield 13, 3), (37, .aload_n 0, 1), (38, .getfield 16, 3), (41, .iload_n 1, 1), (42, .ifCond .ne 7, 3), (45, .iload_n 2, 1), (46, .goto 17, 3), (49, .iload_n 3, 1), (50, .ifCond .eq 12, 3), (53, .aload_n 0, 1), (54, .getfield 9, 3), (57, .iload_n 2, 1), (58, .iaload, 1), (59, .goto 4, 3), (62, .iconst 0, 1), (63, .iastore, 1), (64, .aload_n 0, 1), (65, .dup, 1), (66, .getfield 16, 3), (69, .iconst 1, 1), (70, .iadd, 1), (71, .putfield 16, 3), (74, .goto 130, 3), (77, .iload_n 1, 1), (78, .iconst 5, 1), (79, .if_icmp .ne 32, 3), (82, .aload_n 0, 1), (83, .getfield 16, 3), (86, .ifCond .le 25, 3), (89, .iload_n 2, 1), (90, .ifCond .eq 21, 3), (93, .aload_n 0, 1), (94, .getfield 13, 3), (97, .aload_n 0, 1), (98, .getfield 16, 3), (101, .iconst 1, 1), (102, .isub, 1), (103, .dup2, 1), (104, .iaload, 1), (105, .iload_n 2, 1), (106, .idiv, 1), (107, .iastore, 1), (108, .goto 96, 3), (111, .iload_n 1, 1), (112, .bipush 9, 2), (114, .if_icmp .ne 37, 3), (117, .aload_n 0, 1), (118, .getfield 16, 3), (121, .ifCond .le 30, 3), (124, .aload_n 0, 1), (125, .getfield 13, 3), (128, .aload_n 0, 1), (129, .getfield 16, 3), (132, .iconst 1, 1), (133, .isub, 1), (134, .iconst 1, 1), (135, .aload_n 0, 1), (136, .getfield 13, 3), (139, .aload_n 0, 1), (140, .getfield 16, 3), (143, .iconst 1, 1), (144, .isub, 1), (145, .iaload, 1), (146, .isub, 1), (147, .iastore, 1), (148, .goto 56, 3), (151, .aload_n 0, 1), (152, .getfield 16, 3), (155, .iconst 1, 1), (156, .if_icmp .le 48, 3), (159, .aload_n 0, 1), (160, .dup, 1), (161, .getfield 16, 3), (164, .iconst 1, 1), (165, .isub, 1), (166, .putfield 16, 3), (169, .aload_n 0, 1), (170, .getfield 13, 3), (173, .aload_n 0, 1), (174, .getfield 16, 3), (177, .iconst 1, 1), (178, .isub, 1), (179, .iload_n 1, 1), (180, .aload_n 0, 1), (181, .getfield 13, 3), (184, .aload_n 0, 1), (185, .getfield 16, 3), (188, .iconst 1, 1), (189, .isub, 1), (190, .iaload, 1), (191, .aload_n 0, 1), (192, .getfield 13, 3), (195, .aload_n 0, 1), (196, .getfield 16, 3), (199, .iaload, 1), (200, .invokestatic 24, 3), (203, .iastore, 1), (204, .return_, 1)]
def m_Su_step : gp_M := (⟨"GoldPlate$Sums", "step", "(II)V"⟩, prog_10_method_4_code, 4, none, 0, 0, 8, 2, cd_Su_step)
def cd_Su_join : List (Nat × Instr × Nat) := [(0, .iload_n 0, 1), (1, .tableswitch 100 2 10 #[51, 55, 59, 100, 63, 74, 85, 100, 96], 51), (52, .iload_n 1, 1), (53, .iload_n 2, 1), (54, .iadd, 1), (55, .ireturn, 1), (56, .iload_n 1, 1), (57, .iload_n 2, 1), (58, .isub, 1), (59, .ireturn, 1), (60, .iload_n 1, 1), (61, .iload_n 2, 1), (62, .imul, 1), (63, .ireturn, 1), (64, .iload_n 1, 1), (65, .iload_n 2, 1), (66, .if_icmp .ge 7, 3), (69, .iconst 1, 1), (70, .goto 4, 3), (73, .iconst 0, 1), (74, .ireturn, 1), (75, .iload_n 1, 1), (76, .iload_n 2, 1), (77, .if_icmp .ne 7, 3), (80, .iconst 1, 1), (81, .goto 4, 3), (84, .iconst 0, 1), (85, .ireturn, 1), (86, .iload_n 1, 1), (87, .iload_n 2, 1), (88, .if_icmp .le 7, 3), (91, .iconst 1, 1), (92, .goto 4, 3), (95, .iconst 0, 1), (96, .ireturn, 1), (97, .iload_n 1, 1), (98, .iload_n 2, 1), (99, .iand, 1), (100, .ireturn, 1), (101, .iload_n 1, 1), (102, .iload_n 2, 1), (103, .ior, 1), (104, .ireturn, 1)]
def m_Su_join : gp_M := (⟨"GoldPlate$Sums", "join", "(III)I"⟩, prog_10_method_5_code, 3, (some .int), 0, 0, 8, 3, cd_Su_join)
def cd_Tr_init : List (Nat × Instr × Nat) := [(0, .aload_n 0, 1), (1, .invokespecial 3, 3), (4, .aload_n 0, 1), (5, .bipush 40, 2), (7, .newarray .long, 2), (9, .putfield 11, 3), (12, .aload_n 0, 1), (13, .bipush 40, 2), (15, .newarray .int, 2), (17, .putfield 15, 3), (20, .aload_n 0, 1), (21, .bipush 40, 2), (23, .newarray .int, 2), (25, .putfield 19, 3), (28, .return_, 1)]
def m_Tr_init : gp_M := (⟨"GoldPlate$Trials", "<init>", "()V"⟩, prog_11_method_1_code, 1, none, 3, 120, 9, 0, cd_Tr_init)
def cd_Tr_add : List (Nat × Instr × Nat) := [(0, .aload_n 0, 1), (1, .getfield 22, 3), (4, .bipush 40, 2), (6, .if_icmp .lt 5, 3), (9, .iconst (-1), 1), (10, .ireturn, 1), (11, .aload_n 0, 1), (12, .getfield 11, 3), (15, .aload_n 0, 1), (16, .getfield 22, 3), (19, .lload_n 1, 1), (20, .lastore, 1), (21, .aload_n 0, 1), (22, .getfield 15, 3), (25, .aload_n 0, 1), (26, .getfield 22, 3), (29, .iload_n 3, 1), (30, .iastore, 1), (31, .aload_n 0, 1), (32, .getfield 19, 3), (35, .aload_n 0, 1), (36, .getfield 22, 3), (39, .iload 4, 2), (41, .iastore, 1), (42, .aload_n 0, 1), (43, .dup, 1), (44, .getfield 22, 3), (47, .iconst 1, 1), (48, .iadd, 1), (49, .putfield 22, 3), (52, .aload_n 0, 1), (53, .getfield 22, 3), (56, .iconst 1, 1), (57, .isub, 1), (58, .ireturn, 1)]
def m_Tr_add : gp_M := (⟨"GoldPlate$Trials", "add", "(JII)I"⟩, prog_11_method_2_code, 5, (some .int), 0, 0, 9, 3, cd_Tr_add)
def cd_Tr_rightPlaces : List (Nat × Instr × Nat) := [(0, .iconst 0, 1), (1, .istore 4, 2), (3, .iconst 1, 1), (4, .iload_n 3, 1), (5, .ishl, 1), (6, .iconst 1, 1), (7, .isub, 1), (8, .istore 5, 2), (10, .iconst 0, 1), (11, .istore 6, 2), (13, .iload 6, 2), (15, .aload_n 0, 1), (16, .getfield 22, 3), (19, .if_icmp .ge 51, 3), (22, .aload_n 0, 1), (23, .getfield 11, 3), (26, .iload 6, 2), (28, .laload, 1), (29, .lload_n 1, 1), (30, .lcmp, 1), (31, .ifCond .ne 33, 3), (34, .aload_n 0, 1), (35, .getfield 15, 3), (38, .iload 6, 2), (40, .iaload, 1), (41, .iload_n 3, 1), (42, .if_icmp .ne 22, 3), (45, .iconst 1, 1), (46, .istore 4, 2), (48, .iload 5, 2), (50, .aload_n 0, 1), (51, .getfield 19, 3), (54, .iload 6, 2), (56, .iaload, 1), (57, .iload_n 3, 1), (58, .invokestatic 26, 3), (61, .iand, 1), (62, .istore 5, 2), (64, .iinc 6 1, 3), (67, .goto (-54), 3), (70, .iload 4, 2), (72, .ifCond .eq 8, 3), (75, .iload 5, 2), (77, .goto 4, 3), (80, .iconst 0, 1), (81, .ireturn, 1)]
def m_Tr_rightPlaces : gp_M := (⟨"GoldPlate$Trials", "rightPlaces", "(JI)I"⟩, prog_11_method_3_code, 7, (some .int), 0, 0, 9, 2, cd_Tr_rightPlaces)
def cd_Wi_init : List (Nat × Instr × Nat) := [(0, .aload_n 0, 1), (1, .invokespecial 1, 3), (4, .aload_n 0, 1), (5, .bipush 24, 2), (7, .newarray .int, 2), (9, .putfield 9, 3), (12, .aload_n 0, 1), (13, .bipush 24, 2), (15, .newarray .int, 2), (17, .putfield 13, 3), (20, .return_, 1)]
def m_Wi_init : gp_M := (⟨"GoldPlate$Widths", "<init>", "()V"⟩, prog_12_method_1_code, 1, none, 2, 48, 10, 0, cd_Wi_init)
def cd_Wi_order : List (Nat × Instr × Nat) := [(0, .aload_n 0, 1), (1, .iconst 0, 1), (2, .putfield 16, 3), (5, .iconst 2, 1), (6, .istore 4, 2), (8, .iload 4, 2), (10, .aload_n 1, 1), (11, .getfield 20, 3), (14, .iconst 2, 1), (15, .idiv, 1), (16, .if_icmp .gt 32, 3), (19, .aload_n 1, 1), (20, .iload 4, 2), (22, .invokevirtual 25, 3), (25, .ifCond .eq 17, 3), (28, .aload_n 0, 1), (29, .iload 4, 2), (31, .aload_n 1, 1), (32, .iload 4, 2), (34, .aload_n 2, 1), (35, .aload_n 3, 1), (36, .invokestatic 29, 3), (39, .invokevirtual 33, 3), (42, .iinc 4 1, 3), (45, .goto (-37), 3), (48, .return_, 1)]
def m_Wi_order : gp_M := (⟨"GoldPlate$Widths", "order", "(LGoldPlate$BitRow;LGoldPlate$Mind;LGoldPlate$Sums;)V"⟩, prog_12_method_2_code, 5, none, 0, 0, 10, 3, cd_Wi_order)
def cd_Wi_rankOf : List (Nat × Instr × Nat) := [(0, .aload_n 0, 1), (1, .iload_n 1, 1), (2, .invokevirtual 37, 3), (5, .istore 4, 2), (7, .aload_n 3, 1), (8, .invokevirtual 41, 3), (11, .aload_n 3, 1), (12, .getfield 46, 3), (15, .bipush 8, 2), (17, .iload_n 1, 1), (18, .iastore, 1), (19, .aload_n 3, 1), (20, .getfield 46, 3), (23, .bipush 9, 2), (25, .iload 4, 2), (27, .iastore, 1), (28, .aload_n 3, 1), (29, .getfield 46, 3), (32, .bipush 10, 2), (34, .iload_n 1, 1), (35, .invokestatic 49, 3), (38, .ifCond .eq 15, 3), (41, .iload 4, 2), (43, .invokestatic 49, 3), (46, .ifCond .eq 7, 3), (49, .iconst 1, 1), (50, .goto 4, 3), (53, .iconst 0, 1), (54, .iastore, 1), (55, .aload_n 3, 1), (56, .getfield 46, 3), (59, .bipush 11, 2), (61, .aload_n 0, 1), (62, .iload_n 1, 1), (63, .invokevirtual 52, 3), (66, .iastore, 1), (67, .aload_n 3, 1), (68, .getfield 46, 3), (71, .bipush 12, 2), (73, .iload_n 1, 1), (74, .iload 4, 2), (76, .isub, 1), (77, .invokestatic 55, 3), (80, .iastore, 1), (81, .aload_n 2, 1), (82, .aload_n 3, 1), (83, .invokevirtual 60, 3), (86, .ireturn, 1)]
def m_Wi_rankOf : gp_M := (⟨"GoldPlate$Widths", "rankOf", "(LGoldPlate$BitRow;ILGoldPlate$Mind;LGoldPlate$Sums;)I"⟩, prog_12_method_3_code, 5, (some .int), 0, 0, 10, 4, cd_Wi_rankOf)
def cd_Wi_isPrime : List (Nat × Instr × Nat) := [(0, .iconst 2, 1), (1, .istore_n 1, 1), (2, .iload_n 1, 1), (3, .iload_n 1, 1), (4, .imul, 1), (5, .iload_n 0, 1), (6, .if_icmp .gt 17, 3), (9, .iload_n 0, 1), (10, .iload_n 1, 1), (11, .irem, 1), (12, .ifCond .ne 5, 3), (15, .iconst 0, 1), (16, .ireturn, 1), (17, .iinc 1 1, 3), (20, .goto (-18), 3), (23, .iload_n 0, 1), (24, .iconst 2, 1), (25, .if_icmp .lt 7, 3), (28, .iconst 1, 1), (29, .goto 4, 3), (32, .iconst 0, 1), (33, .ireturn, 1)]
def m_Wi_isPrime : gp_M := (⟨"GoldPlate$Widths", "isPrime", "(I)Z"⟩, prog_12_method_4_code, 2, (some .boolean), 0, 0, 10, 1, cd_Wi_isPrime)
def cd_Wi_insert : List (Nat × Instr × Nat) := [(0, .aload_n 0, 1), (1, .getfield 16, 3), (4, .bipush 24, 2), (6, .if_icmp .lt 4, 3), (9, .return_, 1), (10, .aload_n 0, 1), (11, .getfield 16, 3), (14, .istore_n 3, 1), (15, .aload_n 0, 1), (16, .getfield 16, 3), (19, .istore 4, 2), (21, .iload 4, 2), (23, .ifCond .le 59, 3), (26, .aload_n 0, 1), (27, .getfield 13, 3), (30, .iload 4, 2), (32, .iconst 1, 1), (33, .isub, 1), (34, .iaload, 1), (35, .iload_n 2, 1), (36, .if_icmp .le 46, 3), (39, .aload_n 0, 1), (40, .getfield 13, 3), (43, .iload 4, 2), (45, .aload_n 0, 1), (46, .getfield 13, 3), (49, .iload 4, 2), (51, .iconst 1, 1), (52, .isub, 1), (53, .iaload, 1), (54, .iastore, 1), (55, .aload_n 0, 1), (56, .getfield 9, 3), (59, .iload 4, 2), (61, .aload_n 0, 1), (62, .getfield 9, 3), (65, .iload 4, 2), (67, .iconst 1, 1), (68, .isub, 1), (69, .iaload, 1), (70, .iastore, 1), (71, .iload 4, 2), (73, .iconst 1, 1), (74, .isub, 1), (75, .istore_n 3, 1), (76, .iinc 4 (-1), 3), (79, .goto (-58), 3), (82, .aload_n 0, 1), (83, .getfield 13, 3), (86, .iload_n 3, 1), (87, .iload_n 2, 1), (88, .iastore, 1), (89, .aload_n 0, 1), (90, .getfield 9, 3), (93, .iload_n 3, 1), (94, .iload_n 1, 1), (95, .iastore, 1), (96, .aload_n 0, 1), (97, .dup, 1), (98, .getfield 16, 3), (101, .iconst 1, 1), (102, .iadd, 1), (103, .putfield 16, 3), (106, .return_, 1)]
def m_Wi_insert : gp_M := (⟨"GoldPlate$Widths", "insert", "(II)V"⟩, prog_12_method_5_code, 5, none, 0, 0, 10, 2, cd_Wi_insert)
def cd_Gp_init : List (Nat × Instr × Nat) := [(0, .aload_n 0, 1), (1, .invokespecial 3, 3), (4, .new 9, 3), (7, .dup, 1), (8, .invokespecial 11, 3), (11, .astore_n 1, 1), (12, .bipush 6, 2), (14, .anewarray 12, 3), (17, .astore_n 2, 1), (18, .iconst 0, 1), (19, .istore_n 3, 1), (20, .iload_n 3, 1), (21, .bipush 6, 2), (23, .if_icmp .ge 19, 3), (26, .aload_n 2, 1), (27, .iload_n 3, 1), (28, .new 12, 3), (31, .dup, 1), (32, .invokespecial 14, 3), (35, .aastore, 1), (36, .iinc 3 1, 3), (39, .goto (-19), 3), (42, .new 15, 3), (45, .dup, 1), (46, .invokespecial 17, 3), (49, .astore_n 3, 1), (50, .aload_n 0, 1), (51, .aload_n 1, 1), (52, .putfield 18, 3), (55, .aload_n 0, 1), (56, .aload_n 2, 1), (57, .putfield 22, 3), (60, .aload_n 0, 1), (61, .aload_n 3, 1), (62, .putfield 26, 3), (65, .aload_n 0, 1), (66, .new 30, 3), (69, .dup, 1), (70, .invokespecial 32, 3), (73, .putfield 33, 3), (76, .aload_n 0, 1), (77, .new 37, 3), (80, .dup, 1), (81, .aload_n 1, 1), (82, .aload_n 3, 1), (83, .invokespecial 39, 3), (86, .putfield 42, 3), (89, .aload_n 0, 1), (90, .new 46, 3), (93, .dup, 1), (94, .aload_n 1, 1), (95, .aload_n 2, 1), (96, .invokespecial 48, 3), (99, .putfield 51, 3), (102, .aload_n 0, 1), (103, .new 55, 3), (106, .dup, 1), (107, .invokespecial 57, 3), (110, .putfield 58, 3), (113, .aload_n 0, 1), (114, .new 55, 3), (117, .dup, 1), (118, .invokespecial 57, 3), (121, .putfield 62, 3), (124, .aload_n 0, 1), (125, .new 65, 3), (128, .dup, 1), (129, .invokespecial 67, 3), (132, .putfield 68, 3), (135, .aload_n 0, 1), (136, .new 72, 3), (139, .dup, 1), (140, .invokespecial 74, 3), (143, .putfield 75, 3), (146, .aload_n 0, 1), (147, .new 79, 3), (150, .dup, 1), (151, .invokespecial 81, 3), (154, .putfield 82, 3), (157, .return_, 1)]
def m_Gp_init : gp_M := (⟨"GoldPlate", "<init>", "()V"⟩, prog_1_method_1_code, 4, none, 94, 7609, 11, 0, cd_Gp_init)
def cd_Gp_mark : List (Nat × Instr × Nat) := [(0, .iload_n 1, 1), (1, .iconst 0, 1), (2, .bipush 6, 2), (4, .invokestatic 86, 3), (7, .ifCond .eq 50, 3), (10, .iload_n 2, 1), (11, .iconst 0, 1), (12, .bipush 15, 2), (14, .invokestatic 86, 3), (17, .ifCond .eq 40, 3), (20, .iload_n 3, 1), (21, .iconst 1, 1), (22, .bipush 99, 2), (24, .invokestatic 86, 3), (27, .ifCond .eq 30, 3), (30, .iload 4, 2), (32, .iconst 0, 1), (33, .sipush 999, 3), (36, .invokestatic 86, 3), (39, .ifCond .eq 18, 3), (42, .iload 5, 2), (44, .iconst 0, 1), (45, .bipush 15, 2), (47, .invokestatic 86, 3), (50, .ifCond .eq 7, 3), (53, .iconst 1, 1), (54, .goto 4, 3), (57, .iconst 0, 1), (58, .istore 6, 2), (60, .iload 6, 2), (62, .ifCond .eq 15, 3), (65, .aload_n 0, 1), (66, .getfield 18, 3), (69, .getfield 90, 3), (72, .bipush 16, 2), (74, .if_icmp .lt 5, 3), (77, .iconst (-1), 1), (78, .ireturn, 1), (79, .aload_n 0, 1), (80, .getfield 18, 3), (83, .getfield 94, 3), (86, .aload_n 0, 1), (87, .getfield 18, 3), (90, .getfield 90, 3), (93, .aaload, 1), (94, .astore 7, 2), (96, .aload 7, 2), (98, .iload_n 1, 1), (99, .putfield 98, 3), (102, .aload 7, 2), (104, .iload_n 2, 1), (105, .putfield 103, 3), (108, .aload 7, 2), (110, .iload_n 3, 1), (111, .putfield 106, 3), (114, .aload 7, 2), (116, .iload 4, 2), (118, .putfield 109, 3), (121, .aload 7, 2), (123, .iload 5, 2), (125, .putfield 112, 3), (128, .aload_n 0, 1), (129, .getfield 18, 3), (132, .dup, 1), (133, .getfield 90, 3), (136, .iconst 1, 1), (137, .iadd, 1), (138, .putfield 90, 3), (141, .aload_n 0, 1), (142, .getfield 18, 3), (145, .getfield 90, 3), (148, .iconst 1, 1), (149, .isub, 1), (150, .ireturn, 1)]
def m_Gp_mark : gp_M := (⟨"GoldPlate", "mark", "(IIIII)I"⟩, prog_1_method_2_code, 8, (some .int), 0, 0, 11, 5, cd_Gp_mark)
def cd_Gp_tell : List (Nat × Instr × Nat) := [(0, .aload_n 0, 1), (1, .getfield 18, 3), (4, .iload_n 1, 1), (5, .invokevirtual 115, 3), (8, .ifCond .ne 5, 3), (11, .iconst 0, 1), (12, .ireturn, 1), (13, .aload_n 0, 1), (14, .getfield 18, 3), (17, .getfield 94, 3), (20, .iload_n 1, 1), (21, .aaload, 1), (22, .astore 4, 2), (24, .iload_n 2, 1), (25, .tableswitch 60 0 3 #[31, 39, 46, 53], 31), (56, .aload 4, 2), (58, .iload_n 1, 1), (59, .iload_n 3, 1), (60, .invokestatic 119, 3), (63, .ireturn, 1), (64, .aload 4, 2), (66, .iload_n 3, 1), (67, .invokestatic 123, 3), (70, .ireturn, 1), (71, .aload 4, 2), (73, .iload_n 3, 1), (74, .invokestatic 127, 3), (77, .ireturn, 1), (78, .aload 4, 2), (80, .iload_n 3, 1), (81, .invokestatic 130, 3), (84, .ireturn, 1), (85, .iconst 0, 1), (86, .ireturn, 1)]
def m_Gp_tell : gp_M := (⟨"GoldPlate", "tell", "(III)Z"⟩, prog_1_method_3_code, 5, (some .boolean), 0, 0, 11, 3, cd_Gp_tell)
def cd_Gp_tellNeeds : List (Nat × Instr × Nat) := [(0, .iload_n 2, 1), (1, .iconst 0, 1), (2, .iconst 1, 1), (3, .iload_n 1, 1), (4, .ishl, 1), (5, .iconst 1, 1), (6, .isub, 1), (7, .invokestatic 86, 3), (10, .ifCond .ne 5, 3), (13, .iconst 0, 1), (14, .ireturn, 1), (15, .aload_n 0, 1), (16, .iload_n 2, 1), (17, .putfield 133, 3), (20, .iconst 1, 1), (21, .ireturn, 1)]
def m_Gp_tellNeeds : gp_M := (⟨"GoldPlate", "tellNeeds", "(LGoldPlate$Mark;II)Z"⟩, prog_1_method_4_code, 3, (some .boolean), 0, 0, 11, 3, cd_Gp_tellNeeds)
def cd_Gp_tellKnows : List (Nat × Instr × Nat) := [(0, .iload_n 1, 1), (1, .iconst 0, 1), (2, .sipush 255, 3), (5, .invokestatic 86, 3), (8, .ifCond .ne 5, 3), (11, .iconst 0, 1), (12, .ireturn, 1), (13, .aload_n 0, 1), (14, .iload_n 1, 1), (15, .putfield 136, 3), (18, .iconst 1, 1), (19, .ireturn, 1)]
def m_Gp_tellKnows : gp_M := (⟨"GoldPlate", "tellKnows", "(LGoldPlate$Mark;I)Z"⟩, prog_1_method_5_code, 2, (some .boolean), 0, 0, 11, 2, cd_Gp_tellKnows)
def cd_Gp_tellFirst : List (Nat × Instr × Nat) := [(0, .iload_n 1, 1), (1, .iconst (-1), 1), (2, .if_icmp .ne 15, 3), (5, .aload_n 0, 1), (6, .getfield 139, 3), (9, .iconst (-1), 1), (10, .if_icmp .eq 7, 3), (13, .iconst 1, 1), (14, .goto 4, 3), (17, .iconst 0, 1), (18, .istore_n 2, 1), (19, .iload_n 2, 1), (20, .ifCond .ne 11, 3), (23, .aload_n 0, 1), (24, .iload_n 1, 1), (25, .invokestatic 142, 3), (28, .ifCond .ne 5, 3), (31, .iconst 0, 1), (32, .ireturn, 1), (33, .aload_n 0, 1), (34, .iload_n 1, 1), (35, .putfield 145, 3), (38, .iconst 1, 1), (39, .ireturn, 1)]
def m_Gp_tellFirst : gp_M := (⟨"GoldPlate", "tellFirst", "(LGoldPlate$Mark;I)Z"⟩, prog_1_method_6_code, 3, (some .boolean), 0, 0, 11, 2, cd_Gp_tellFirst)
def cd_Gp_tellSecond : List (Nat × Instr × Nat) := [(0, .iload_n 1, 1), (1, .iconst (-1), 1), (2, .if_icmp .eq 15, 3), (5, .aload_n 0, 1), (6, .getfield 145, 3), (9, .iconst (-1), 1), (10, .if_icmp .ne 7, 3), (13, .iconst 1, 1), (14, .goto 4, 3), (17, .iconst 0, 1), (18, .istore_n 2, 1), (19, .iload_n 2, 1), (20, .ifCond .ne 11, 3), (23, .aload_n 0, 1), (24, .iload_n 1, 1), (25, .invokestatic 142, 3), (28, .ifCond .ne 5, 3), (31, .iconst 0, 1), (32, .ireturn, 1), (33, .aload_n 0, 1), (34, .iload_n 1, 1), (35, .putfield 139, 3), (38, .iconst 1, 1), (39, .ireturn, 1)]
def m_Gp_tellSecond : gp_M := (⟨"GoldPlate", "tellSecond", "(LGoldPlate$Mark;I)Z"⟩, prog_1_method_7_code, 3, (some .boolean), 0, 0, 11, 2, cd_Gp_tellSecond)
def cd_Gp_canBeOther : List (Nat × Instr × Nat) := [(0, .iload_n 1, 1), (1, .iconst (-1), 1), (2, .if_icmp .eq 21, 3), (5, .iload_n 1, 1), (6, .iconst 0, 1), (7, .bipush 15, 2), (9, .invokestatic 86, 3), (12, .ifCond .eq 15, 3), (15, .iload_n 1, 1), (16, .aload_n 0, 1), (17, .getfield 103, 3), (20, .if_icmp .eq 7, 3), (23, .iconst 1, 1), (24, .goto 4, 3), (27, .iconst 0, 1), (28, .ireturn, 1)]
def m_Gp_canBeOther : gp_M := (⟨"GoldPlate", "canBeOther", "(LGoldPlate$Mark;I)Z"⟩, prog_1_method_8_code, 2, (some .boolean), 0, 0, 11, 2, cd_Gp_canBeOther)
def cd_Gp_hard : List (Nat × Instr × Nat) := [(0, .iload_n 1, 1), (1, .iconst 0, 1), (2, .bipush 6, 2), (4, .invokestatic 86, 3), (7, .ifCond .eq 13, 3), (10, .iload_n 2, 1), (11, .iconst 0, 1), (12, .bipush 99, 2), (14, .invokestatic 86, 3), (17, .ifCond .ne 5, 3), (20, .iconst 0, 1), (21, .ireturn, 1), (22, .aload_n 0, 1), (23, .getfield 18, 3), (26, .getfield 148, 3), (29, .iload_n 1, 1), (30, .iload_n 2, 1), (31, .iastore, 1), (32, .iconst 1, 1), (33, .ireturn, 1)]
def m_Gp_hard : gp_M := (⟨"GoldPlate", "hard", "(II)Z"⟩, prog_1_method_9_code, 3, (some .boolean), 0, 0, 11, 2, cd_Gp_hard)
def cd_Gp_year : List (Nat × Instr × Nat) := [(0, .iload_n 1, 1), (1, .iconst 0, 1), (2, .sipush 999, 3), (5, .invokestatic 86, 3), (8, .ifCond .ne 5, 3), (11, .iconst 0, 1), (12, .ireturn, 1), (13, .aload_n 0, 1), (14, .getfield 18, 3), (17, .iload_n 1, 1), (18, .putfield 152, 3), (21, .iconst 1, 1), (22, .ireturn, 1)]
def m_Gp_year : gp_M := (⟨"GoldPlate", "year", "(I)Z"⟩, prog_1_method_10_code, 2, (some .boolean), 0, 0, 11, 1, cd_Gp_year)
def cd_Gp_of : List (Nat × Instr × Nat) := [(0, .aload_n 0, 1), (1, .getfield 18, 3), (4, .iload_n 1, 1), (5, .invokevirtual 115, 3), (8, .ifCond .ne 6, 3), (11, .ldc 155, 2), (13, .ireturn, 1), (14, .iload_n 2, 1), (15, .tableswitch 68 0 2 #[25, 42, 59], 25), (40, .aload_n 0, 1), (41, .getfield 18, 3), (44, .aload_n 0, 1), (45, .getfield 18, 3), (48, .getfield 94, 3), (51, .iload_n 1, 1), (52, .aaload, 1), (53, .invokevirtual 156, 3), (56, .ireturn, 1), (57, .aload_n 0, 1), (58, .getfield 18, 3), (61, .aload_n 0, 1), (62, .getfield 18, 3), (65, .getfield 94, 3), (68, .iload_n 1, 1), (69, .aaload, 1), (70, .invokevirtual 160, 3), (73, .ireturn, 1), (74, .aload_n 0, 1), (75, .getfield 18, 3), (78, .iload_n 1, 1), (79, .invokevirtual 163, 3), (82, .ireturn, 1), (83, .ldc 155, 2), (85, .ireturn, 1)]
def m_Gp_of : gp_M := (⟨"GoldPlate", "of", "(II)I"⟩, prog_1_method_11_code, 3, (some .int), 0, 0, 11, 2, cd_Gp_of)
def cd_Gp_put : List (Nat × Instr × Nat) := [(0, .iload_n 1, 1), (1, .iconst (-1), 1), (2, .if_icmp .ne 15, 3), (5, .aload_n 0, 1), (6, .lconst 0, 1), (7, .putfield 167, 3), (10, .aload_n 0, 1), (11, .iconst 0, 1), (12, .putfield 171, 3), (15, .iconst 0, 1), (16, .ireturn, 1), (17, .aload_n 0, 1), (18, .getfield 18, 3), (21, .iload_n 1, 1), (22, .invokevirtual 115, 3), (25, .ifCond .eq 20, 3), (28, .aload_n 0, 1), (29, .iload_n 1, 1), (30, .invokevirtual 174, 3), (33, .ifCond .ne 12, 3), (36, .aload_n 0, 1), (37, .getfield 171, 3), (40, .bipush 16, 2), (42, .if_icmp .lt 5, 3), (45, .iconst (-1), 1), (46, .ireturn, 1), (47, .aload_n 0, 1), (48, .dup, 1), (49, .getfield 167, 3), (52, .iload_n 1, 1), (53, .i2l, 1), (54, .iconst 4, 1), (55, .aload_n 0, 1), (56, .getfield 171, 3), (59, .imul, 1), (60, .lshl, 1), (61, .lor, 1), (62, .putfield 167, 3), (65, .aload_n 0, 1), (66, .dup, 1), (67, .getfield 171, 3), (70, .iconst 1, 1), (71, .iadd, 1), (72, .putfield 171, 3), (75, .aload_n 0, 1), (76, .getfield 171, 3), (79, .ireturn, 1)]
def m_Gp_put : gp_M := (⟨"GoldPlate", "put", "(I)I"⟩, prog_1_method_12_code, 2, (some .int), 0, 0, 11, 1, cd_Gp_put)
def cd_Gp_inMessage : List (Nat × Instr × Nat) := [(0, .iconst 0, 1), (1, .istore_n 2, 1), (2, .iload_n 2, 1), (3, .aload_n 0, 1), (4, .getfield 171, 3), (7, .if_icmp .ge 23, 3), (10, .aload_n 0, 1), (11, .getfield 167, 3), (14, .iload_n 2, 1), (15, .invokestatic 177, 3), (18, .iload_n 1, 1), (19, .if_icmp .ne 5, 3), (22, .iconst 1, 1), (23, .ireturn, 1), (24, .iinc 2 1, 3), (27, .goto (-25), 3), (30, .iconst 0, 1), (31, .ireturn, 1)]
def m_Gp_inMessage : gp_M := (⟨"GoldPlate", "inMessage", "(I)Z"⟩, prog_1_method_13_code, 3, (some .boolean), 0, 0, 11, 1, cd_Gp_inMessage)
def cd_Gp_feed : List (Nat × Instr × Nat) := [(0, .aload_n 0, 1), (1, .getfield 33, 3), (4, .getfield 181, 3), (7, .bipush 20, 2), (9, .iadd, 1), (10, .sipush 500, 3), (13, .if_icmp .le 5, 3), (16, .iconst (-1), 1), (17, .ireturn, 1), (18, .aload_n 0, 1), (19, .getfield 33, 3), (22, .iload_n 1, 1), (23, .invokevirtual 182, 3), (26, .aload_n 0, 1), (27, .getfield 33, 3), (30, .iload_n 2, 1), (31, .invokevirtual 182, 3), (34, .aload_n 0, 1), (35, .getfield 33, 3), (38, .iload_n 3, 1), (39, .invokevirtual 182, 3), (42, .aload_n 0, 1), (43, .getfield 33, 3), (46, .iload 4, 2), (48, .invokevirtual 182, 3), (51, .aload_n 0, 1), (52, .getfield 33, 3), (55, .iload 5, 2), (57, .invokevirtual 182, 3), (60, .aload_n 0, 1), (61, .getfield 33, 3), (64, .getfield 181, 3), (67, .ireturn, 1)]
def m_Gp_feed : gp_M := (⟨"GoldPlate", "feed", "(IIIII)I"⟩, prog_1_method_14_code, 6, (some .int), 0, 0, 11, 5, cd_Gp_feed)
def cd_Gp_end : List (Nat × Instr × Nat) := [(0, .iload_n 1, 1), (1, .iconst 0, 1), (2, .aload_n 0, 1), (3, .getfield 33, 3), (6, .getfield 181, 3), (9, .invokestatic 86, 3), (12, .ifCond .ne 5, 3), (15, .iconst 0, 1), (16, .ireturn, 1), (17, .aload_n 0, 1), (18, .getfield 33, 3), (21, .iload_n 1, 1), (22, .putfield 181, 3), (25, .iconst 1, 1), (26, .ireturn, 1)]
def m_Gp_end : gp_M := (⟨"GoldPlate", "end", "(I)Z"⟩, prog_1_method_15_code, 2, (some .boolean), 0, 0, 11, 1, cd_Gp_end)
def cd_Gp_mind : List (Nat × Instr × Nat) := [(0, .iload_n 1, 1), (1, .invokestatic 186, 3), (4, .ifCond .ne 12, 3), (7, .aload_n 0, 1), (8, .getfield 33, 3), (11, .invokevirtual 189, 3), (14, .iconst (-1), 1), (15, .ireturn, 1), (16, .aload_n 0, 1), (17, .getfield 33, 3), (20, .invokevirtual 192, 3), (23, .aload_n 0, 1), (24, .getfield 33, 3), (27, .invokevirtual 195, 3), (30, .ifCond .ne 5, 3), (33, .iconst (-1), 1), (34, .ireturn, 1), (35, .aload_n 0, 1), (36, .getfield 22, 3), (39, .iload_n 1, 1), (40, .aaload, 1), (41, .astore_n 2, 1), (42, .aload_n 0, 1), (43, .getfield 22, 3), (46, .iload_n 1, 1), (47, .aload_n 0, 1), (48, .getfield 33, 3), (51, .getfield 199, 3), (54, .aastore, 1), (55, .aload_n 0, 1), (56, .getfield 33, 3), (59, .aload_n 2, 1), (60, .putfield 199, 3), (63, .aload_n 0, 1), (64, .getfield 22, 3), (67, .iload_n 1, 1), (68, .aaload, 1), (69, .getfield 203, 3), (72, .ireturn, 1)]
def m_Gp_mind : gp_M := (⟨"GoldPlate", "mind", "(I)I"⟩, prog_1_method_16_code, 3, (some .int), 0, 0, 11, 1, cd_Gp_mind)
def cd_Gp_fault : List (Nat × Instr × Nat) := [(0, .iload_n 1, 1), (1, .ifCond .ne 11, 3), (4, .aload_n 0, 1), (5, .getfield 33, 3), (8, .getfield 206, 3), (11, .ireturn, 1), (12, .iload_n 1, 1), (13, .iconst 1, 1), (14, .if_icmp .ne 13, 3), (17, .aload_n 0, 1), (18, .getfield 33, 3), (21, .getfield 209, 3), (24, .goto 4, 3), (27, .iconst (-1), 1), (28, .ireturn, 1)]
def m_Gp_fault : gp_M := (⟨"GoldPlate", "fault", "(I)I"⟩, prog_1_method_17_code, 2, (some .int), 0, 0, 11, 1, cd_Gp_fault)
def cd_Gp_readings : List (Nat × Instr × Nat) := [(0, .iload_n 1, 1), (1, .invokestatic 186, 3), (4, .ifCond .eq 23, 3), (7, .iload_n 2, 1), (8, .iconst 0, 1), (9, .sipush 9999, 3), (12, .invokestatic 86, 3), (15, .ifCond .eq 12, 3), (18, .aload_n 0, 1), (19, .getfield 171, 3), (22, .bipush 10, 2), (24, .if_icmp .le 5, 3), (27, .iconst (-1), 1), (28, .ireturn, 1), (29, .aload_n 0, 1), (30, .getfield 42, 3), (33, .aload_n 0, 1), (34, .getfield 167, 3), (37, .aload_n 0, 1), (38, .getfield 171, 3), (41, .aload_n 0, 1), (42, .getfield 22, 3), (45, .iload_n 1, 1), (46, .aaload, 1), (47, .invokevirtual 212, 3), (50, .aload_n 0, 1), (51, .getfield 42, 3), (54, .iload_n 2, 1), (55, .invokevirtual 216, 3), (58, .istore_n 3, 1), (59, .iload_n 3, 1), (60, .sipush 2000, 3), (63, .if_icmp .le 8, 3), (66, .bipush (-2), 2), (68, .goto 4, 3), (71, .iload_n 3, 1), (72, .ireturn, 1)]
def m_Gp_readings : gp_M := (⟨"GoldPlate", "readings", "(II)I"⟩, prog_1_method_18_code, 4, (some .int), 0, 0, 11, 2, cd_Gp_readings)
def cd_Gp_cheapest : List (Nat × Instr × Nat) := [(0, .iload_n 1, 1), (1, .invokestatic 186, 3), (4, .ifCond .eq 12, 3), (7, .aload_n 0, 1), (8, .getfield 171, 3), (11, .bipush 10, 2), (13, .if_icmp .le 5, 3), (16, .iconst (-1), 1), (17, .ireturn, 1), (18, .iload_n 2, 1), (19, .bipush 10, 2), (21, .bipush 9, 2), (23, .aload_n 0, 1), (24, .getfield 171, 3), (27, .iadd, 1), (28, .invokestatic 86, 3), (31, .istore_n 3, 1), (32, .iload_n 3, 1), (33, .ifCond .ne 14, 3), (36, .iload_n 2, 1), (37, .iconst 0, 1), (38, .iconst 2, 1), (39, .invokestatic 86, 3), (42, .ifCond .ne 5, 3), (45, .iconst (-1), 1), (46, .ireturn, 1), (47, .aload_n 0, 1), (48, .aload_n 0, 1), (49, .getfield 167, 3), (52, .aload_n 0, 1), (53, .getfield 171, 3), (56, .iload_n 1, 1), (57, .invokevirtual 219, 3), (60, .iload_n 3, 1), (61, .ifCond .eq 15, 3), (64, .aload_n 0, 1), (65, .getfield 42, 3), (68, .iload_n 2, 1), (69, .bipush 10, 2), (71, .isub, 1), (72, .invokevirtual 223, 3), (75, .ireturn, 1), (76, .iload_n 2, 1), (77, .ifCond .ne 11, 3), (80, .aload_n 0, 1), (81, .getfield 42, 3), (84, .getfield 226, 3), (87, .ireturn, 1), (88, .aload_n 0, 1), (89, .getfield 42, 3), (92, .invokevirtual 229, 3), (95, .istore 4, 2), (97, .iload_n 2, 1), (98, .iconst 1, 1), (99, .if_icmp .ne 23, 3), (102, .iload 4, 2), (104, .iconst (-1), 1), (105, .if_icmp .ne 7, 3), (108, .iconst (-1), 1), (109, .goto 12, 3), (112, .aload_n 0, 1), (113, .getfield 167, 3), (116, .iload 4, 2), (118, .invokestatic 177, 3), (121, .ireturn, 1), (122, .iload 4, 2), (124, .iconst (-1), 1), (125, .if_icmp .ne 7, 3), (128, .iconst 0, 1), (129, .goto 12, 3), (132, .aload_n 0, 1), (133, .getfield 42, 3), (136, .iload 4, 2), (138, .invokevirtual 233, 3), (141, .ireturn, 1)]
def m_Gp_cheapest : gp_M := (⟨"GoldPlate", "cheapest", "(II)I"⟩, prog_1_method_19_code, 5, (some .int), 0, 0, 11, 2, cd_Gp_cheapest)
def cd_Gp_findCheapest : List (Nat × Instr × Nat) := [(0, .aload_n 0, 1), (1, .getfield 42, 3), (4, .lload_n 1, 1), (5, .iload_n 3, 1), (6, .aload_n 0, 1), (7, .getfield 22, 3), (10, .iload 4, 2), (12, .aaload, 1), (13, .invokevirtual 212, 3), (16, .aload_n 0, 1), (17, .getfield 42, 3), (20, .invokevirtual 236, 3), (23, .return_, 1)]
def m_Gp_findCheapest : gp_M := (⟨"GoldPlate", "findCheapest", "(JII)V"⟩, prog_1_method_20_code, 5, none, 0, 0, 11, 3, cd_Gp_findCheapest)
def cd_Gp_alone : List (Nat × Instr × Nat) := [(0, .iload_n 1, 1), (1, .invokestatic 186, 3), (4, .ifCond .eq 14, 3), (7, .aload_n 0, 1), (8, .getfield 18, 3), (11, .iload_n 2, 1), (12, .invokevirtual 115, 3), (15, .ifCond .ne 5, 3), (18, .iconst (-1), 1), (19, .ireturn, 1), (20, .aload_n 0, 1), (21, .getfield 18, 3), (24, .aload_n 0, 1), (25, .getfield 18, 3), (28, .invokevirtual 238, 3), (31, .aload_n 0, 1), (32, .getfield 22, 3), (35, .iload_n 1, 1), (36, .aaload, 1), (37, .aload_n 0, 1), (38, .getfield 18, 3), (41, .getfield 152, 3), (44, .iconst (-1), 1), (45, .invokevirtual 241, 3), (48, .iload_n 2, 1), (49, .ishr, 1), (50, .iconst 1, 1), (51, .iand, 1), (52, .ireturn, 1)]
def m_Gp_alone : gp_M := (⟨"GoldPlate", "alone", "(II)I"⟩, prog_1_method_21_code, 3, (some .int), 0, 0, 11, 2, cd_Gp_alone)
def cd_Gp_bits : List (Nat × Instr × Nat) := [(0, .aload_n 0, 1), (1, .getfield 58, 3), (4, .iload_n 1, 1), (5, .iload_n 2, 1), (6, .invokevirtual 245, 3), (9, .ireturn, 1)]
def m_Gp_bits : gp_M := (⟨"GoldPlate", "bits", "(II)I"⟩, prog_1_method_22_code, 3, (some .int), 0, 0, 11, 2, cd_Gp_bits)
def cd_Gp_grid : List (Nat × Instr × Nat) := [(0, .aload_n 0, 1), (1, .getfield 62, 3), (4, .iload_n 1, 1), (5, .iload_n 2, 1), (6, .invokevirtual 245, 3), (9, .ireturn, 1)]
def m_Gp_grid : gp_M := (⟨"GoldPlate", "grid", "(II)I"⟩, prog_1_method_23_code, 3, (some .int), 0, 0, 11, 2, cd_Gp_grid)
def cd_Gp_widths : List (Nat × Instr × Nat) := [(0, .iload_n 1, 1), (1, .invokestatic 186, 3), (4, .ifCond .eq 7, 3), (7, .iload_n 2, 1), (8, .ifCond .ge 5, 3), (11, .iconst (-1), 1), (12, .ireturn, 1), (13, .aload_n 0, 1), (14, .getfield 68, 3), (17, .aload_n 0, 1), (18, .getfield 58, 3), (21, .aload_n 0, 1), (22, .getfield 22, 3), (25, .iload_n 1, 1), (26, .aaload, 1), (27, .aload_n 0, 1), (28, .getfield 26, 3), (31, .invokevirtual 249, 3), (34, .iload_n 2, 1), (35, .ifCond .ne 11, 3), (38, .aload_n 0, 1), (39, .getfield 68, 3), (42, .getfield 253, 3), (45, .ireturn, 1), (46, .iload_n 2, 1), (47, .aload_n 0, 1), (48, .getfield 68, 3), (51, .getfield 253, 3), (54, .if_icmp .gt 17, 3), (57, .aload_n 0, 1), (58, .getfield 68, 3), (61, .getfield 256, 3), (64, .iload_n 2, 1), (65, .iconst 1, 1), (66, .isub, 1), (67, .iaload, 1), (68, .goto 4, 3), (71, .iconst (-1), 1), (72, .ireturn, 1)]
def m_Gp_widths : gp_M := (⟨"GoldPlate", "widths", "(II)I"⟩, prog_1_method_24_code, 3, (some .int), 0, 0, 11, 2, cd_Gp_widths)
def cd_Gp_laid : List (Nat × Instr × Nat) := [(0, .iload_n 1, 1), (1, .invokestatic 186, 3), (4, .ifCond .eq 40, 3), (7, .iload_n 3, 1), (8, .iconst 0, 1), (9, .iconst 1, 1), (10, .invokestatic 86, 3), (13, .ifCond .eq 31, 3), (16, .aload_n 0, 1), (17, .getfield 58, 3), (20, .iload_n 2, 1), (21, .invokevirtual 259, 3), (24, .ifCond .eq 20, 3), (27, .aload_n 0, 1), (28, .getfield 58, 3), (31, .getfield 262, 3), (34, .aload_n 0, 1), (35, .getfield 62, 3), (38, .getfield 262, 3), (41, .if_icmp .eq 5, 3), (44, .iconst (-1), 1), (45, .ireturn, 1), (46, .aload_n 0, 1), (47, .getfield 22, 3), (50, .iload_n 1, 1), (51, .aaload, 1), (52, .getfield 263, 3), (55, .istore 4, 2), (57, .iload_n 3, 1), (58, .ifCond .ne 18, 3), (61, .aload_n 0, 1), (62, .getfield 58, 3), (65, .aload_n 0, 1), (66, .getfield 62, 3), (69, .iload_n 2, 1), (70, .iload 4, 2), (72, .invokevirtual 266, 3), (75, .ireturn, 1), (76, .aload_n 0, 1), (77, .getfield 58, 3), (80, .aload_n 0, 1), (81, .getfield 62, 3), (84, .iload_n 2, 1), (85, .iload 4, 2), (87, .invokevirtual 270, 3), (90, .ifCond .eq 7, 3), (93, .iconst 1, 1), (94, .goto 4, 3), (97, .iconst 0, 1), (98, .ireturn, 1)]
def m_Gp_laid : gp_M := (⟨"GoldPlate", "laid", "(III)I"⟩, prog_1_method_25_code, 5, (some .int), 0, 0, 11, 3, cd_Gp_laid)
def cd_Gp_beat : List (Nat × Instr × Nat) := [(0, .iload_n 1, 1), (1, .iconst 1, 1), (2, .ldc_w 274, 3), (5, .invokestatic 86, 3), (8, .ifCond .eq 39, 3), (11, .iload_n 2, 1), (12, .iconst 0, 1), (13, .sipush 9999, 3), (16, .invokestatic 86, 3), (19, .ifCond .eq 28, 3), (22, .iload_n 3, 1), (23, .iconst 0, 1), (24, .bipush 39, 2), (26, .invokestatic 86, 3), (29, .ifCond .eq 18, 3), (32, .iload 4, 2), (34, .iconst 0, 1), (35, .bipush 39, 2), (37, .invokestatic 86, 3), (40, .ifCond .eq 7, 3), (43, .iconst 1, 1), (44, .goto 4, 3), (47, .iconst 0, 1), (48, .istore 5, 2), (50, .iload 5, 2), (52, .ifCond .eq 18, 3), (55, .aload_n 0, 1), (56, .getfield 75, 3), (59, .iload_n 1, 1), (60, .iload_n 2, 1), (61, .iload_n 3, 1), (62, .iload 4, 2), (64, .invokevirtual 275, 3), (67, .goto 4, 3), (70, .iconst (-1), 1), (71, .ireturn, 1)]
def m_Gp_beat : gp_M := (⟨"GoldPlate", "beat", "(IIII)I"⟩, prog_1_method_26_code, 6, (some .int), 0, 0, 11, 4, cd_Gp_beat)
def cd_Gp_found : List (Nat × Instr × Nat) := [(0, .iload_n 2, 1), (1, .iconst (-1), 1), (2, .if_icmp .eq 25, 3), (5, .iload_n 2, 1), (6, .iconst 0, 1), (7, .ldc_w 279, 3), (10, .invokestatic 86, 3), (13, .ifCond .eq 18, 3), (16, .iload_n 3, 1), (17, .iload_n 2, 1), (18, .ldc_w 279, 3), (21, .invokestatic 86, 3), (24, .ifCond .eq 7, 3), (27, .iconst 1, 1), (28, .goto 4, 3), (31, .iconst 0, 1), (32, .istore 4, 2), (34, .aload_n 0, 1), (35, .getfield 75, 3), (38, .iload_n 1, 1), (39, .invokevirtual 280, 3), (42, .ifCond .eq 8, 3), (45, .iload 4, 2), (47, .ifCond .ne 5, 3), (50, .iconst 0, 1), (51, .ireturn, 1), (52, .aload_n 0, 1), (53, .getfield 75, 3), (56, .getfield 281, 3), (59, .iload_n 1, 1), (60, .iload_n 2, 1), (61, .iastore, 1), (62, .aload_n 0, 1), (63, .getfield 75, 3), (66, .getfield 284, 3), (69, .iload_n 1, 1), (70, .iload_n 3, 1), (71, .iastore, 1), (72, .iconst 1, 1), (73, .ireturn, 1)]
def m_Gp_found : gp_M := (⟨"GoldPlate", "found", "(III)Z"⟩, prog_1_method_27_code, 5, (some .boolean), 0, 0, 11, 3, cd_Gp_found)
def cd_Gp_far : List (Nat × Instr × Nat) := [(0, .aload_n 0, 1), (1, .getfield 75, 3), (4, .iload_n 1, 1), (5, .invokevirtual 280, 3), (8, .ifCond .eq 13, 3), (11, .iload_n 2, 1), (12, .iconst 0, 1), (13, .bipush 55, 2), (15, .invokestatic 86, 3), (18, .ifCond .ne 5, 3), (21, .iconst 0, 1), (22, .ireturn, 1), (23, .aload_n 0, 1), (24, .getfield 75, 3), (27, .getfield 287, 3), (30, .iload_n 1, 1), (31, .iload_n 2, 1), (32, .iastore, 1), (33, .iconst 1, 1), (34, .ireturn, 1)]
def m_Gp_far : gp_M := (⟨"GoldPlate", "far", "(II)Z"⟩, prog_1_method_28_code, 3, (some .boolean), 0, 0, 11, 2, cd_Gp_far)
def cd_Gp_years : List (Nat × Instr × Nat) := [(0, .iload_n 1, 1), (1, .iconst 0, 1), (2, .iconst 2, 1), (3, .invokestatic 86, 3), (6, .ifCond .ne 5, 3), (9, .iconst (-1), 1), (10, .ireturn, 1), (11, .aload_n 0, 1), (12, .getfield 75, 3), (15, .invokevirtual 290, 3), (18, .iload_n 1, 1), (19, .iconst 2, 1), (20, .if_icmp .ne 11, 3), (23, .aload_n 0, 1), (24, .getfield 75, 3), (27, .getfield 293, 3), (30, .ireturn, 1), (31, .iload_n 1, 1), (32, .ifCond .ne 13, 3), (35, .aload_n 0, 1), (36, .getfield 75, 3), (39, .getfield 296, 3), (42, .goto 10, 3), (45, .aload_n 0, 1), (46, .getfield 75, 3), (49, .getfield 299, 3), (52, .ireturn, 1)]
def m_Gp_years : gp_M := (⟨"GoldPlate", "years", "(I)I"⟩, prog_1_method_29_code, 2, (some .int), 0, 0, 11, 1, cd_Gp_years)
def cd_Gp_places : List (Nat × Instr × Nat) := [(0, .iload_n 1, 1), (1, .iconst 0, 1), (2, .bipush 55, 2), (4, .invokestatic 86, 3), (7, .ifCond .eq 12, 3), (10, .iload_n 2, 1), (11, .iconst 0, 1), (12, .iconst 1, 1), (13, .invokestatic 86, 3), (16, .ifCond .ne 5, 3), (19, .iconst (-1), 1), (20, .ireturn, 1), (21, .aload_n 0, 1), (22, .getfield 75, 3), (25, .iload_n 1, 1), (26, .invokevirtual 302, 3), (29, .iload_n 2, 1), (30, .ifCond .ne 13, 3), (33, .aload_n 0, 1), (34, .getfield 75, 3), (37, .getfield 305, 3), (40, .goto 10, 3), (43, .aload_n 0, 1), (44, .getfield 75, 3), (47, .getfield 308, 3), (50, .ireturn, 1)]
def m_Gp_places : gp_M := (⟨"GoldPlate", "places", "(II)I"⟩, prog_1_method_30_code, 3, (some .int), 0, 0, 11, 2, cd_Gp_places)
def cd_Gp_told : List (Nat × Instr × Nat) := [(0, .iload_n 1, 1), (1, .invokestatic 186, 3), (4, .ifCond .eq 14, 3), (7, .iload_n 2, 1), (8, .iconst 0, 1), (9, .ldc_w 311, 3), (12, .invokestatic 86, 3), (15, .ifCond .ne 5, 3), (18, .iconst (-1), 1), (19, .ireturn, 1), (20, .aload_n 0, 1), (21, .getfield 18, 3), (24, .aload_n 0, 1), (25, .getfield 18, 3), (28, .iload_n 2, 1), (29, .aload_n 0, 1), (30, .getfield 22, 3), (33, .iload_n 1, 1), (34, .aaload, 1), (35, .aload_n 0, 1), (36, .getfield 18, 3), (39, .getfield 152, 3), (42, .iconst (-1), 1), (43, .invokevirtual 241, 3), (46, .invokevirtual 312, 3), (49, .ireturn, 1)]
def m_Gp_told : gp_M := (⟨"GoldPlate", "told", "(II)I"⟩, prog_1_method_31_code, 3, (some .int), 0, 0, 11, 2, cd_Gp_told)
def cd_Gp_best : List (Nat × Instr × Nat) := [(0, .iload_n 1, 1), (1, .iconst 0, 1), (2, .sipush 9999, 3), (5, .invokestatic 86, 3), (8, .ifCond .eq 22, 3), (11, .iload_n 2, 1), (12, .iconst 1, 1), (13, .bipush 63, 2), (15, .invokestatic 86, 3), (18, .ifCond .eq 12, 3), (21, .iload_n 3, 1), (22, .iconst 0, 1), (23, .iconst 3, 1), (24, .invokestatic 86, 3), (27, .ifCond .ne 5, 3), (30, .iconst (-1), 1), (31, .ireturn, 1), (32, .aload_n 0, 1), (33, .getfield 51, 3), (36, .iload_n 1, 1), (37, .iload_n 2, 1), (38, .iload_n 3, 1), (39, .iconst 2, 1), (40, .if_icmp .lt 7, 3), (43, .iconst 1, 1), (44, .goto 4, 3), (47, .iconst 0, 1), (48, .invokevirtual 315, 3), (51, .iload_n 3, 1), (52, .ifCond .eq 8, 3), (55, .iload_n 3, 1), (56, .iconst 2, 1), (57, .if_icmp .ne 13, 3), (60, .aload_n 0, 1), (61, .getfield 51, 3), (64, .getfield 319, 3), (67, .goto 10, 3), (70, .aload_n 0, 1), (71, .getfield 51, 3), (74, .getfield 322, 3), (77, .ireturn, 1)]
def m_Gp_best : gp_M := (⟨"GoldPlate", "best", "(III)I"⟩, prog_1_method_32_code, 4, (some .int), 0, 0, 11, 3, cd_Gp_best)
def cd_Gp_never : List (Nat × Instr × Nat) := [(0, .iload_n 1, 1), (1, .invokestatic 186, 3), (4, .ifCond .ne 5, 3), (7, .iconst (-1), 1), (8, .ireturn, 1), (9, .aload_n 0, 1), (10, .getfield 18, 3), (13, .aload_n 0, 1), (14, .getfield 18, 3), (17, .aload_n 0, 1), (18, .getfield 18, 3), (21, .invokevirtual 238, 3), (24, .aload_n 0, 1), (25, .getfield 22, 3), (28, .iload_n 1, 1), (29, .aaload, 1), (30, .aload_n 0, 1), (31, .getfield 18, 3), (34, .getfield 152, 3), (37, .iconst (-1), 1), (38, .invokevirtual 241, 3), (41, .invokevirtual 312, 3), (44, .istore_n 2, 1), (45, .aload_n 0, 1), (46, .getfield 18, 3), (49, .aload_n 0, 1), (50, .getfield 18, 3), (53, .invokevirtual 238, 3), (56, .invokevirtual 312, 3), (59, .iload_n 2, 1), (60, .iconst (-1), 1), (61, .ixor, 1), (62, .iand, 1), (63, .ireturn, 1)]
def m_Gp_never : gp_M := (⟨"GoldPlate", "never", "(I)I"⟩, prog_1_method_33_code, 3, (some .int), 0, 0, 11, 1, cd_Gp_never)
def cd_Gp_deeper : List (Nat × Instr × Nat) := [(0, .iload_n 1, 1), (1, .invokestatic 186, 3), (4, .ifCond .eq 14, 3), (7, .iload_n 2, 1), (8, .iconst 0, 1), (9, .sipush 999, 3), (12, .invokestatic 86, 3), (15, .ifCond .ne 5, 3), (18, .iconst (-1), 1), (19, .ireturn, 1), (20, .aload_n 0, 1), (21, .iload_n 1, 1), (22, .iload_n 2, 1), (23, .iconst (-1), 1), (24, .invokevirtual 325, 3), (27, .istore_n 3, 1), (28, .iconst (-1), 1), (29, .istore 4, 2), (31, .iconst 0, 1), (32, .istore 5, 2), (34, .iload 5, 2), (36, .aload_n 0, 1), (37, .getfield 18, 3), (40, .getfield 90, 3), (43, .if_icmp .ge 32, 3), (46, .aload_n 0, 1), (47, .iload_n 1, 1), (48, .iload_n 2, 1), (49, .iload 5, 2), (51, .invokevirtual 325, 3), (54, .istore 6, 2), (56, .iload 6, 2), (58, .iload_n 3, 1), (59, .if_icmp .le 10, 3), (62, .iload 6, 2), (64, .istore_n 3, 1), (65, .iload 5, 2), (67, .istore 4, 2), (69, .iinc 5 1, 3), (72, .goto (-38), 3), (75, .iload 4, 2), (77, .ireturn, 1)]
def m_Gp_deeper : gp_M := (⟨"GoldPlate", "deeper", "(II)I"⟩, prog_1_method_34_code, 7, (some .int), 0, 0, 11, 2, cd_Gp_deeper)
def cd_Gp_countTold : List (Nat × Instr × Nat) := [(0, .aload_n 0, 1), (1, .getfield 18, 3), (4, .aload_n 0, 1), (5, .getfield 18, 3), (8, .aload_n 0, 1), (9, .getfield 18, 3), (12, .invokevirtual 238, 3), (15, .aload_n 0, 1), (16, .getfield 22, 3), (19, .iload_n 1, 1), (20, .aaload, 1), (21, .iload_n 2, 1), (22, .iload_n 3, 1), (23, .invokevirtual 241, 3), (26, .invokevirtual 312, 3), (29, .invokestatic 329, 3), (32, .ireturn, 1)]
def m_Gp_countTold : gp_M := (⟨"GoldPlate", "countTold", "(III)I"⟩, prog_1_method_35_code, 4, (some .int), 0, 0, 11, 3, cd_Gp_countTold)
def cd_Gp_trial : List (Nat × Instr × Nat) := [(0, .aload_n 0, 1), (1, .getfield 171, 3), (4, .iconst 1, 1), (5, .bipush 10, 2), (7, .invokestatic 86, 3), (10, .ifCond .eq 25, 3), (13, .iload_n 1, 1), (14, .iconst 0, 1), (15, .iconst 1, 1), (16, .iconst 2, 1), (17, .aload_n 0, 1), (18, .getfield 171, 3), (21, .imul, 1), (22, .ishl, 1), (23, .iconst 1, 1), (24, .isub, 1), (25, .invokestatic 86, 3), (28, .ifCond .eq 7, 3), (31, .iconst 1, 1), (32, .goto 4, 3), (35, .iconst 0, 1), (36, .istore_n 2, 1), (37, .iload_n 2, 1), (38, .ifCond .eq 11, 3), (41, .aload_n 0, 1), (42, .iload_n 1, 1), (43, .invokevirtual 334, 3), (46, .ifCond .ne 5, 3), (49, .iconst (-1), 1), (50, .ireturn, 1), (51, .aload_n 0, 1), (52, .getfield 82, 3), (55, .aload_n 0, 1), (56, .getfield 167, 3), (59, .aload_n 0, 1), (60, .getfield 171, 3), (63, .iload_n 1, 1), (64, .invokevirtual 337, 3), (67, .ireturn, 1)]
def m_Gp_trial : gp_M := (⟨"GoldPlate", "trial", "(I)I"⟩, prog_1_method_36_code, 3, (some .int), 0, 0, 11, 1, cd_Gp_trial)
def cd_Gp_othersAreThere : List (Nat × Instr × Nat) := [(0, .iconst 0, 1), (1, .istore_n 2, 1), (2, .iload_n 2, 1), (3, .aload_n 0, 1), (4, .getfield 171, 3), (7, .if_icmp .ge 51, 3), (10, .aload_n 0, 1), (11, .getfield 18, 3), (14, .getfield 94, 3), (17, .aload_n 0, 1), (18, .getfield 167, 3), (21, .iload_n 2, 1), (22, .invokestatic 177, 3), (25, .aaload, 1), (26, .astore_n 3, 1), (27, .iload_n 1, 1), (28, .iload_n 2, 1), (29, .invokestatic 340, 3), (32, .istore 4, 2), (34, .iload 4, 2), (36, .iconst 2, 1), (37, .if_icmp .lt 15, 3), (40, .aload_n 3, 1), (41, .iload 4, 2), (43, .invokevirtual 343, 3), (46, .iconst (-1), 1), (47, .if_icmp .ne 5, 3), (50, .iconst 0, 1), (51, .ireturn, 1), (52, .iinc 2 1, 3), (55, .goto (-53), 3), (58, .iconst 1, 1), (59, .ireturn, 1)]
def m_Gp_othersAreThere : gp_M := (⟨"GoldPlate", "othersAreThere", "(I)Z"⟩, prog_1_method_37_code, 5, (some .boolean), 0, 0, 11, 1, cd_Gp_othersAreThere)
def cd_Gp_agrees : List (Nat × Instr × Nat) := [(0, .iload_n 1, 1), (1, .iconst 0, 1), (2, .aload_n 0, 1), (3, .getfield 82, 3), (6, .getfield 346, 3), (9, .iconst 1, 1), (10, .isub, 1), (11, .invokestatic 86, 3), (14, .ifCond .ne 5, 3), (17, .iconst (-1), 1), (18, .ireturn, 1), (19, .iconst 0, 1), (20, .istore_n 2, 1), (21, .iconst 0, 1), (22, .istore_n 3, 1), (23, .iload_n 3, 1), (24, .bipush 6, 2), (26, .if_icmp .ge 57, 3), (29, .aload_n 0, 1), (30, .aload_n 0, 1), (31, .getfield 82, 3), (34, .getfield 347, 3), (37, .iload_n 1, 1), (38, .laload, 1), (39, .aload_n 0, 1), (40, .getfield 82, 3), (43, .getfield 351, 3), (46, .iload_n 1, 1), (47, .iaload, 1), (48, .iload_n 3, 1), (49, .invokevirtual 219, 3), (52, .aload_n 0, 1), (53, .getfield 42, 3), (56, .invokevirtual 354, 3), (59, .aload_n 0, 1), (60, .getfield 82, 3), (63, .getfield 357, 3), (66, .iload_n 1, 1), (67, .iaload, 1), (68, .if_icmp .ne 9, 3), (71, .iload_n 2, 1), (72, .iconst 1, 1), (73, .iload_n 3, 1), (74, .ishl, 1), (75, .ior, 1), (76, .istore_n 2, 1), (77, .iinc 3 1, 3), (80, .goto (-57), 3), (83, .iload_n 2, 1), (84, .ireturn, 1)]
def m_Gp_agrees : gp_M := (⟨"GoldPlate", "agrees", "(I)I"⟩, prog_1_method_38_code, 4, (some .int), 0, 0, 11, 1, cd_Gp_agrees)
def cd_Gp_ours : List (Nat × Instr × Nat) := [(0, .iload_n 1, 1), (1, .iconst 0, 1), (2, .bipush 63, 2), (4, .invokestatic 86, 3), (7, .ifCond .eq 12, 3), (10, .aload_n 0, 1), (11, .getfield 171, 3), (14, .bipush 10, 2), (16, .if_icmp .le 5, 3), (19, .iconst (-1), 1), (20, .ireturn, 1), (21, .aload_n 0, 1), (22, .getfield 82, 3), (25, .aload_n 0, 1), (26, .getfield 167, 3), (29, .aload_n 0, 1), (30, .getfield 171, 3), (33, .invokevirtual 360, 3), (36, .istore_n 2, 1), (37, .iconst 0, 1), (38, .istore_n 3, 1), (39, .iload_n 3, 1), (40, .bipush 6, 2), (42, .if_icmp .ge 54, 3), (45, .iload_n 2, 1), (46, .ifCond .eq 50, 3), (49, .iload_n 1, 1), (50, .iload_n 3, 1), (51, .ishr, 1), (52, .iconst 1, 1), (53, .iand, 1), (54, .iconst 1, 1), (55, .if_icmp .ne 35, 3), (58, .aload_n 0, 1), (59, .aload_n 0, 1), (60, .getfield 167, 3), (63, .aload_n 0, 1), (64, .getfield 171, 3), (67, .iload_n 3, 1), (68, .invokevirtual 219, 3), (71, .iload_n 2, 1), (72, .aload_n 0, 1), (73, .getfield 42, 3), (76, .invokevirtual 354, 3), (79, .aload_n 0, 1), (80, .getfield 171, 3), (83, .invokestatic 363, 3), (86, .iconst (-1), 1), (87, .ixor, 1), (88, .iand, 1), (89, .istore_n 2, 1), (90, .iinc 3 1, 3), (93, .goto (-54), 3), (96, .aload_n 0, 1), (97, .iload_n 2, 1), (98, .invokevirtual 366, 3), (101, .ireturn, 1)]
def m_Gp_ours : gp_M := (⟨"GoldPlate", "ours", "(I)I"⟩, prog_1_method_39_code, 4, (some .int), 0, 0, 11, 1, cd_Gp_ours)
def cd_Gp_marksAtPlaces : List (Nat × Instr × Nat) := [(0, .iconst 0, 1), (1, .istore_n 2, 1), (2, .iconst 0, 1), (3, .istore_n 3, 1), (4, .iload_n 3, 1), (5, .aload_n 0, 1), (6, .getfield 171, 3), (9, .if_icmp .ge 31, 3), (12, .iload_n 1, 1), (13, .iload_n 3, 1), (14, .ishr, 1), (15, .iconst 1, 1), (16, .iand, 1), (17, .iconst 1, 1), (18, .if_icmp .ne 16, 3), (21, .iload_n 2, 1), (22, .iconst 1, 1), (23, .aload_n 0, 1), (24, .getfield 167, 3), (27, .iload_n 3, 1), (28, .invokestatic 177, 3), (31, .ishl, 1), (32, .ior, 1), (33, .istore_n 2, 1), (34, .iinc 3 1, 3), (37, .goto (-33), 3), (40, .iload_n 2, 1), (41, .ireturn, 1)]
def m_Gp_marksAtPlaces : gp_M := (⟨"GoldPlate", "marksAtPlaces", "(I)I"⟩, prog_1_method_40_code, 4, (some .int), 0, 0, 11, 1, cd_Gp_marksAtPlaces)
def cd_Gp_look : List (Nat × Instr × Nat) := [(0, .iload_n 1, 1), (1, .tableswitch 84 0 5 #[39, 47, 52, 60, 68, 76], 39), (40, .aload_n 0, 1), (41, .getfield 18, 3), (44, .getfield 90, 3), (47, .ireturn, 1), (48, .aload_n 0, 1), (49, .getfield 171, 3), (52, .ireturn, 1), (53, .aload_n 0, 1), (54, .getfield 58, 3), (57, .getfield 262, 3), (60, .ireturn, 1), (61, .aload_n 0, 1), (62, .getfield 75, 3), (65, .getfield 369, 3), (68, .ireturn, 1), (69, .aload_n 0, 1), (70, .getfield 82, 3), (73, .getfield 346, 3), (76, .ireturn, 1), (77, .aload_n 0, 1), (78, .getfield 18, 3), (81, .getfield 152, 3), (84, .ireturn, 1), (85, .iconst (-1), 1), (86, .ireturn, 1)]
def m_Gp_look : gp_M := (⟨"GoldPlate", "look", "(I)I"⟩, prog_1_method_41_code, 2, (some .int), 0, 0, 11, 1, cd_Gp_look)
def cd_Gp_within : List (Nat × Instr × Nat) := [(0, .iload_n 0, 1), (1, .iload_n 1, 1), (2, .if_icmp .lt 12, 3), (5, .iload_n 0, 1), (6, .iload_n 2, 1), (7, .if_icmp .gt 7, 3), (10, .iconst 1, 1), (11, .goto 4, 3), (14, .iconst 0, 1), (15, .ireturn, 1)]
def m_Gp_within : gp_M := (⟨"GoldPlate", "within", "(III)Z"⟩, prog_1_method_42_code, 3, (some .boolean), 0, 0, 11, 3, cd_Gp_within)
def cd_Gp_isMind : List (Nat × Instr × Nat) := [(0, .iload_n 0, 1), (1, .iconst 0, 1), (2, .iconst 5, 1), (3, .invokestatic 86, 3), (6, .ireturn, 1)]
def m_Gp_isMind : gp_M := (⟨"GoldPlate", "isMind", "(I)Z"⟩, prog_1_method_43_code, 1, (some .boolean), 0, 0, 11, 1, cd_Gp_isMind)
def cd_Gp_markAt : List (Nat × Instr × Nat) := [(0, .lload_n 0, 1), (1, .iconst 4, 1), (2, .iload_n 2, 1), (3, .imul, 1), (4, .lushr, 1), (5, .l2i, 1), (6, .bipush 15, 2), (8, .iand, 1), (9, .ireturn, 1)]
def m_Gp_markAt : gp_M := (⟨"GoldPlate", "markAt", "(JI)I"⟩, prog_1_method_44_code, 3, (some .int), 0, 0, 11, 2, cd_Gp_markAt)
def cd_Gp_takingAt : List (Nat × Instr × Nat) := [(0, .iload_n 0, 1), (1, .iconst 2, 1), (2, .iload_n 1, 1), (3, .imul, 1), (4, .ishr, 1), (5, .iconst 3, 1), (6, .iand, 1), (7, .ireturn, 1)]
def m_Gp_takingAt : gp_M := (⟨"GoldPlate", "takingAt", "(II)I"⟩, prog_1_method_45_code, 2, (some .int), 0, 0, 11, 2, cd_Gp_takingAt)
def cd_Gp_placesTakenRight : List (Nat × Instr × Nat) := [(0, .iconst 0, 1), (1, .istore_n 2, 1), (2, .iconst 0, 1), (3, .istore_n 3, 1), (4, .iload_n 3, 1), (5, .iload_n 1, 1), (6, .if_icmp .ge 24, 3), (9, .iload_n 0, 1), (10, .iload_n 3, 1), (11, .invokestatic 340, 3), (14, .iconst 1, 1), (15, .if_icmp .ne 9, 3), (18, .iload_n 2, 1), (19, .iconst 1, 1), (20, .iload_n 3, 1), (21, .ishl, 1), (22, .ior, 1), (23, .istore_n 2, 1), (24, .iinc 3 1, 3), (27, .goto (-23), 3), (30, .iload_n 2, 1), (31, .ireturn, 1)]
def m_Gp_placesTakenRight : gp_M := (⟨"GoldPlate", "placesTakenRight", "(II)I"⟩, prog_1_method_46_code, 4, (some .int), 0, 0, 11, 2, cd_Gp_placesTakenRight)
def cd_Rf_init : List (Nat × Instr × Nat) := [(0, .aload_n 0, 1), (1, .invokespecial 1, 3), (4, .aload_n 0, 1), (5, .bipush 16, 2), (7, .newarray .int, 2), (9, .putfield 7, 3), (12, .aload_n 0, 1), (13, .bipush 16, 2), (15, .newarray .int, 2), (17, .putfield 13, 3), (20, .aload_n 0, 1), (21, .bipush 16, 2), (23, .newarray .int, 2), (25, .putfield 16, 3), (28, .aload_n 0, 1), (29, .bipush 16, 2), (31, .newarray .int, 2), (33, .putfield 19, 3), (36, .aload_n 0, 1), (37, .bipush 16, 2), (39, .newarray .int, 2), (41, .putfield 22, 3), (44, .aload_n 0, 1), (45, .bipush 16, 2), (47, .newarray .int, 2), (49, .putfield 25, 3), (52, .aload_n 0, 1), (53, .bipush 16, 2), (55, .newarray .int, 2), (57, .putfield 28, 3), (60, .aload_n 0, 1), (61, .bipush 32, 2), (63, .newarray .int, 2), (65, .putfield 31, 3), (68, .aload_n 0, 1), (69, .bipush 7, 2), (71, .newarray .int, 2), (73, .putfield 34, 3), (76, .aload_n 0, 1), (77, .bipush 16, 2), (79, .newarray .int, 2), (81, .putfield 37, 3), (84, .aload_n 0, 1), (85, .iconst (-1), 1), (86, .putfield 40, 3), (89, .aload_n 0, 1), (90, .bipush 16, 2), (92, .newarray .int, 2), (94, .putfield 44, 3), (97, .aload_n 0, 1), (98, .bipush 7, 2), (100, .newarray .int, 2), (102, .putfield 47, 3), (105, .aload_n 0, 1), (106, .bipush 7, 2), (108, .newarray .int, 2), (110, .putfield 50, 3), (113, .aload_n 0, 1), (114, .bipush 7, 2), (116, .newarray .int, 2), (118, .putfield 53, 3), (121, .aload_n 0, 1), (122, .bipush 7, 2), (124, .newarray .int, 2), (126, .putfield 56, 3), (129, .aload_n 0, 1), (130, .bipush 7, 2), (132, .newarray .int, 2), (134, .putfield 59, 3), (137, .aload_n 0, 1), (138, .bipush 7, 2), (140, .newarray .int, 2), (142, .putfield 62, 3), (145, .aload_n 0, 1), (146, .bipush 7, 2), (148, .newarray .int, 2), (150, .putfield 65, 3), (153, .aload_n 0, 1), (154, .bipush 112, 2), (156, .newarray .int, 2), (158, .putfield 68, 3), (161, .aload_n 0, 1), (162, .bipush 112, 2), (164, .newarray .int, 2), (166, .putfield 71, 3), (169, .aload_n 0, 1), (170, .bipush 112, 2), (172, .newarray .int, 2), (174, .putfield 74, 3), (177, .aload_n 0, 1), (178, .sipush 7140, 3), (181, .newarray .int, 2), (183, .putfield 77, 3), (186, .aload_n 0, 1), (187, .sipush 500, 3), (190, .newarray .int, 2), (192, .putfield 80, 3), (195, .aload_n 0, 1), (196, .sipush 520, 3), (199, .newarray .int, 2), (201, .putfield 83, 3), (204, .aload_n 0, 1), (205, .bipush 14, 2), (207, .newarray .int, 2), (209, .putfield 86, 3), (212, .aload_n 0, 1), (213, .bipush 7, 2), (215, .newarray .boolean, 2), (217, .putfield 89, 3), (220, .aload_n 0, 1), (221, .bipush 7, 2), (223, .newarray .boolean, 2), (225, .putfield 93, 3), (228, .aload_n 0, 1), (229, .iconst (-1), 1), (230, .putfield 96, 3), (233, .aload_n 0, 1), (234, .bipush 80, 2), (236, .newarray .int, 2), (238, .putfield 99, 3), (241, .aload_n 0, 1), (242, .bipush 10, 2), (244, .newarray .int, 2), (246, .putfield 102, 3), (249, .aload_n 0, 1), (250, .bipush 10, 2), (252, .newarray .int, 2), (254, .putfield 105, 3), (257, .aload_n 0, 1), (258, .sipush 400, 3), (261, .newarray .int, 2), (263, .putfield 108, 3), (266, .aload_n 0, 1), (267, .sipush 400, 3), (270, .newarray .int, 2), (272, .putfield 111, 3), (275, .aload_n 0, 1), (276, .sipush 400, 3), (279, .newarray .int, 2), (281, .putfield 114, 3), (284, .aload_n 0, 1), (285, .sipush 400, 3), (288, .newarray .int, 2), (290, .putfield 117, 3), (293, .aload_n 0, 1), (294, .bipush 14, 2), (296, .newarray .int, 2), (298, .putfield 120, 3), (301, .aload_n 0, 1), (302, .bipush 14, 2), (304, .newarray .int, 2), (306, .putfield 123, 3), (309, .aload_n 0, 1), (310, .bipush 14, 2), (312, .newarray .int, 2), (314, .putfield 126, 3), (317, .aload_n 0, 1), (318, .bipush 14, 2), (320, .newarray .int, 2), (322, .putfield 129, 3), (325, .aload_n 0, 1), (326, .bipush 14, 2), (328, .newarray .int, 2), (330, .putfield 132, 3), (333, .aload_n 0, 1), (334, .bipush 14, 2), (336, .newarray .int, 2), (338, .putfield 135, 3), (341, .aload_n 0, 1), (342, .bipush 14, 2), (344, .newarray .int, 2), (346, .putfield 138, 3), (349, .aload_n 0, 1), (350, .bipush 40, 2), (352, .newarray .int, 2), (354, .putfield 141, 3), (357, .aload_n 0, 1), (358, .sipush 400, 3), (361, .newarray .int, 2), (363, .putfield 144, 3), (366, .aload_n 0, 1), (367, .bipush 40, 2), (369, .newarray .int, 2), (371, .putfield 147, 3), (374, .aload_n 0, 1), (375, .bipush 16, 2), (377, .newarray .int, 2), (379, .putfield 150, 3), (382, .return_, 1)]
def m_Rf_init : gp_M := (⟨"GoldPlateModel", "<init>", "()V"⟩, prog_14_method_1_code, 1, none, 45, 11050, 12, 0, cd_Rf_init)
def cd_Rf_isIn : List (Nat × Instr × Nat) := [(0, .iload_n 0, 1), (1, .iload_n 1, 1), (2, .if_icmp .lt 12, 3), (5, .iload_n 0, 1), (6, .iload_n 2, 1), (7, .if_icmp .gt 7, 3), (10, .iconst 1, 1), (11, .goto 4, 3), (14, .iconst 0, 1), (15, .ireturn, 1)]
def m_Rf_isIn : gp_M := (⟨"GoldPlateModel", "isIn", "(III)Z"⟩, prog_14_method_2_code, 3, (some .boolean), 0, 0, 12, 3, cd_Rf_isIn)
def cd_Rf_count : List (Nat × Instr × Nat) := [(0, .iconst 0, 1), (1, .istore_n 1, 1), (2, .iconst 0, 1), (3, .istore_n 2, 1), (4, .iload_n 2, 1), (5, .bipush 16, 2), (7, .if_icmp .ge 17, 3), (10, .iload_n 1, 1), (11, .iload_n 0, 1), (12, .iload_n 2, 1), (13, .ishr, 1), (14, .iconst 1, 1), (15, .iand, 1), (16, .iadd, 1), (17, .istore_n 1, 1), (18, .iinc 2 1, 3), (21, .goto (-17), 3), (24, .iload_n 1, 1), (25, .ireturn, 1)]
def m_Rf_count : gp_M := (⟨"GoldPlateModel", "count", "(I)I"⟩, prog_14_method_3_code, 3, (some .int), 0, 0, 12, 1, cd_Rf_count)
def cd_Rf_isMark : List (Nat × Instr × Nat) := [(0, .iload_n 1, 1), (1, .iconst 0, 1), (2, .aload_n 0, 1), (3, .getfield 153, 3), (6, .iconst 1, 1), (7, .isub, 1), (8, .invokestatic 156, 3), (11, .ireturn, 1)]
def m_Rf_isMark : gp_M := (⟨"GoldPlateModel", "isMark", "(I)Z"⟩, prog_14_method_4_code, 2, (some .boolean), 0, 0, 12, 1, cd_Rf_isMark)
def cd_Rf_mark : List (Nat × Instr × Nat) := [(0, .iload_n 1, 1), (1, .iconst 0, 1), (2, .bipush 6, 2), (4, .invokestatic 156, 3), (7, .ifCond .eq 55, 3), (10, .iload_n 2, 1), (11, .iconst 0, 1), (12, .bipush 15, 2), (14, .invokestatic 156, 3), (17, .ifCond .eq 45, 3), (20, .iload_n 3, 1), (21, .iconst 1, 1), (22, .bipush 99, 2), (24, .invokestatic 156, 3), (27, .ifCond .eq 35, 3), (30, .iload 4, 2), (32, .iconst 0, 1), (33, .sipush 999, 3), (36, .invokestatic 156, 3), (39, .ifCond .eq 23, 3), (42, .iload 5, 2), (44, .iconst 0, 1), (45, .bipush 15, 2), (47, .invokestatic 156, 3), (50, .ifCond .eq 12, 3), (53, .aload_n 0, 1), (54, .getfield 153, 3), (57, .bipush 16, 2), (59, .if_icmp .ne 5, 3), (62, .iconst (-1), 1), (63, .ireturn, 1), (64, .aload_n 0, 1), (65, .getfield 153, 3), (68, .istore 6, 2), (70, .aload_n 0, 1), (71, .getfield 7, 3), (74, .iload 6, 2), (76, .iload_n 1, 1), (77, .iastore, 1), (78, .aload_n 0, 1), (79, .getfield 13, 3), (82, .iload 6, 2), (84, .iload_n 2, 1), (85, .iastore, 1), (86, .aload_n 0, 1), (87, .getfield 16, 3), (90, .iload 6, 2), (92, .iload_n 3, 1), (93, .iastore, 1), (94, .aload_n 0, 1), (95, .getfield 19, 3), (98, .iload 6, 2), (100, .iload 4, 2), (102, .iastore, 1), (103, .aload_n 0, 1), (104, .getfield 22, 3), (107, .iload 6, 2), (109, .iload 5, 2), (111, .iastore, 1), (112, .aload_n 0, 1), (113, .getfield 31, 3), (116, .iconst 2, 1), (117, .iload 6, 2), (119, .imul, 1), (120, .iconst (-1), 1), (121, .iastore, 1), (122, .aload_n 0, 1), (123, .getfield 31, 3), (126, .iconst 2, 1), (127, .iload 6, 2), (129, .imul, 1), (130, .iconst 1, 1), (131, .iadd, 1), (132, .iconst (-1), 1), (133, .iastore, 1), (134, .aload_n 0, 1), (135, .dup, 1), (136, .getfield 153, 3), (139, .iconst 1, 1), (140, .iadd, 1), (141, .putfield 153, 3), (144, .iload 6, 2), (146, .ireturn, 1)]
def m_Rf_mark : gp_M := (⟨"GoldPlateModel", "mark", "(IIIII)I"⟩, prog_14_method_5_code, 7, (some .int), 0, 0, 12, 5, cd_Rf_mark)
def cd_Rf_tell : List (Nat × Instr × Nat) := [(0, .aload_n 0, 1), (1, .iload_n 1, 1), (2, .invokevirtual 160, 3), (5, .ifCond .eq 12, 3), (8, .iload_n 2, 1), (9, .iconst 0, 1), (10, .iconst 3, 1), (11, .invokestatic 156, 3), (14, .ifCond .ne 5, 3), (17, .iconst 0, 1), (18, .ireturn, 1), (19, .iload_n 2, 1), (20, .ifCond .ne 16, 3), (23, .iload_n 3, 1), (24, .iconst 0, 1), (25, .iconst 1, 1), (26, .iload_n 1, 1), (27, .ishl, 1), (28, .iconst 1, 1), (29, .isub, 1), (30, .invokestatic 156, 3), (33, .ifCond .eq 19, 3), (36, .iload_n 2, 1), (37, .iconst 1, 1), (38, .if_icmp .ne 16, 3), (41, .iload_n 3, 1), (42, .iconst 0, 1), (43, .sipush 255, 3), (46, .invokestatic 156, 3), (49, .ifCond .ne 5, 3), (52, .iconst 0, 1), (53, .ireturn, 1), (54, .iload_n 2, 1), (55, .iconst 1, 1), (56, .if_icmp .le 25, 3), (59, .iload_n 3, 1), (60, .iconst (-1), 1), (61, .bipush 15, 2), (63, .invokestatic 156, 3), (66, .ifCond .eq 13, 3), (69, .iload_n 3, 1), (70, .aload_n 0, 1), (71, .getfield 13, 3), (74, .iload_n 1, 1), (75, .iaload, 1), (76, .if_icmp .ne 5, 3), (79, .iconst 0, 1), (80, .ireturn, 1), (81, .iload_n 2, 1), (82, .iconst 2, 1), (83, .if_icmp .ne 22, 3), (86, .iload_n 3, 1), (87, .iconst (-1), 1), (88, .if_icmp .ne 17, 3), (91, .aload_n 0, 1), (92, .getfield 31, 3), (95, .iconst 2, 1), (96, .iload_n 1, 1), (97, .imul, 1), (98, .iconst 1, 1), (99, .iadd, 1), (100, .iaload, 1), (101, .iconst (-1), 1), (102, .if_icmp .ne 25, 3), (105, .iload_n 2, 1), (106, .iconst 3, 1), (107, .if_icmp .ne 22, 3), (110, .iload_n 3, 1), (111, .iconst (-1), 1), (112, .if_icmp .eq 17, 3), (115, .aload_n 0, 1), (116, .getfield 31, 3), (119, .iconst 2, 1), (120, .iload_n 1, 1), (121, .imul, 1), (122, .iaload, 1), (123, .iconst (-1), 1), (124, .if_icmp .ne 5, 3), (127, .iconst 0, 1), (128, .ireturn, 1), (129, .iload_n 2, 1), (130, .ifCond .ne 10, 3), (133, .aload_n 0, 1), (134, .getfield 25, 3), (137, .iload_n 1, 1), (138, .iload_n 3, 1), (139, .iastore, 1), (140, .iload_n 2, 1), (141, .iconst 1, 1), (142, .if_icmp .ne 10, 3), (145, .aload_n 0, 1), (146, .getfield 28, 3), (149, .iload_n 1, 1), (150, .iload_n 3, 1), (151, .iastore, 1), (152, .iload_n 2, 1), (153, .iconst 1, 1), (154, .if_icmp .le 16, 3), (157, .aload_n 0, 1), (158, .getfield 31, 3), (161, .iconst 2, 1), (162, .iload_n 1, 1), (163, .imul, 1), (164, .iload_n 2, 1), (165, .iadd, 1), (166, .iconst 2, 1), (167, .isub, 1), (168, .iload_n 3, 1), (169, .iastore, 1), (170, .iconst 1, 1), (171, .ireturn, 1)]
def m_Rf_tell : gp_M := (⟨"GoldPlateModel", "tell", "(III)Z"⟩, prog_14_method_6_code, 4, (some .boolean), 0, 0, 12, 3, cd_Rf_tell)
def cd_Rf_hard : List (Nat × Instr × Nat) := [(0, .iload_n 1, 1), (1, .iconst 0, 1), (2, .bipush 6, 2), (4, .invokestatic 156, 3), (7, .ifCond .eq 13, 3), (10, .iload_n 2, 1), (11, .iconst 0, 1), (12, .bipush 99, 2), (14, .invokestatic 156, 3), (17, .ifCond .ne 5, 3), (20, .iconst 0, 1), (21, .ireturn, 1), (22, .aload_n 0, 1), (23, .getfield 34, 3), (26, .iload_n 1, 1), (27, .iload_n 2, 1), (28, .iastore, 1), (29, .iconst 1, 1), (30, .ireturn, 1)]
def m_Rf_hard : gp_M := (⟨"GoldPlateModel", "hard", "(II)Z"⟩, prog_14_method_7_code, 3, (some .boolean), 0, 0, 12, 2, cd_Rf_hard)
def cd_Rf_year : List (Nat × Instr × Nat) := [(0, .iload_n 1, 1), (1, .iconst 0, 1), (2, .sipush 999, 3), (5, .invokestatic 156, 3), (8, .ifCond .ne 5, 3), (11, .iconst 0, 1), (12, .ireturn, 1), (13, .aload_n 0, 1), (14, .iload_n 1, 1), (15, .putfield 164, 3), (18, .iconst 1, 1), (19, .ireturn, 1)]
def m_Rf_year : gp_M := (⟨"GoldPlateModel", "year", "(I)Z"⟩, prog_14_method_8_code, 2, (some .boolean), 0, 0, 12, 1, cd_Rf_year)
def cd_Rf_depth : List (Nat × Instr × Nat) := [(0, .iload_n 1, 1), (1, .aload_n 0, 1), (2, .getfield 40, 3), (5, .if_icmp .ne 15, 3), (8, .aload_n 0, 1), (9, .getfield 19, 3), (12, .iload_n 1, 1), (13, .iaload, 1), (14, .bipush 100, 2), (16, .iadd, 1), (17, .goto 9, 3), (20, .aload_n 0, 1), (21, .getfield 19, 3), (24, .iload_n 1, 1), (25, .iaload, 1), (26, .istore_n 2, 1), (27, .iload_n 2, 1), (28, .sipush 999, 3), (31, .if_icmp .le 9, 3), (34, .sipush 999, 3), (37, .goto 4, 3), (40, .iload_n 2, 1), (41, .ireturn, 1)]
def m_Rf_depth : gp_M := (⟨"GoldPlateModel", "depth", "(I)I"⟩, prog_14_method_9_code, 3, (some .int), 0, 0, 12, 1, cd_Rf_depth)
def cd_Rf_left : List (Nat × Instr × Nat) := [(0, .aload_n 0, 1), (1, .iload_n 1, 1), (2, .invokevirtual 167, 3), (5, .iload_n 2, 1), (6, .aload_n 0, 1), (7, .getfield 34, 3), (10, .aload_n 0, 1), (11, .getfield 7, 3), (14, .iload_n 1, 1), (15, .iaload, 1), (16, .iaload, 1), (17, .imul, 1), (18, .isub, 1), (19, .ireturn, 1)]
def m_Rf_left : gp_M := (⟨"GoldPlateModel", "left", "(II)I"⟩, prog_14_method_10_code, 3, (some .int), 0, 0, 12, 2, cd_Rf_left)
def cd_Rf_isWorn : List (Nat × Instr × Nat) := [(0, .aload_n 0, 1), (1, .iload_n 1, 1), (2, .aload_n 0, 1), (3, .getfield 164, 3), (6, .invokevirtual 171, 3), (9, .ifCond .le 26, 3), (12, .aload_n 0, 1), (13, .iload_n 1, 1), (14, .aload_n 0, 1), (15, .getfield 164, 3), (18, .invokevirtual 171, 3), (21, .aload_n 0, 1), (22, .iload_n 1, 1), (23, .invokevirtual 167, 3), (26, .iconst 2, 1), (27, .idiv, 1), (28, .if_icmp .ge 7, 3), (31, .iconst 1, 1), (32, .goto 4, 3), (35, .iconst 0, 1), (36, .ireturn, 1)]
def m_Rf_isWorn : gp_M := (⟨"GoldPlateModel", "isWorn", "(I)Z"⟩, prog_14_method_11_code, 2, (some .boolean), 0, 0, 12, 1, cd_Rf_isWorn)
def cd_Rf_chain : List (Nat × Instr × Nat) := [(0, .iconst 0, 1), (1, .istore_n 2, 1), (2, .iconst 0, 1), (3, .istore_n 3, 1), (4, .iload_n 3, 1), (5, .iload_n 1, 1), (6, .if_icmp .ge 48, 3), (9, .aload_n 0, 1), (10, .getfield 25, 3), (13, .iload_n 1, 1), (14, .iaload, 1), (15, .iload_n 3, 1), (16, .ishr, 1), (17, .iconst 1, 1), (18, .iand, 1), (19, .iconst 1, 1), (20, .if_icmp .ne 12, 3), (23, .aload_n 0, 1), (24, .getfield 44, 3), (27, .iload_n 3, 1), (28, .iaload, 1), (29, .goto 4, 3), (32, .iconst 0, 1), (33, .istore 4, 2), (35, .iload 4, 2), (37, .iload_n 2, 1), (38, .if_icmp .le 8, 3), (41, .iload 4, 2), (43, .goto 4, 3), (46, .iload_n 2, 1), (47, .istore_n 2, 1), (48, .iinc 3 1, 3), (51, .goto (-47), 3), (54, .iload_n 2, 1), (55, .iconst 1, 1), (56, .iadd, 1), (57, .ireturn, 1)]
def m_Rf_chain : gp_M := (⟨"GoldPlateModel", "chain", "(I)I"⟩, prog_14_method_12_code, 5, (some .int), 0, 0, 12, 1, cd_Rf_chain)
def cd_Rf_of : List (Nat × Instr × Nat) := [(0, .aload_n 0, 1), (1, .iload_n 1, 1), (2, .invokevirtual 160, 3), (5, .ifCond .eq 12, 3), (8, .iload_n 2, 1), (9, .iconst 0, 1), (10, .iconst 2, 1), (11, .invokestatic 156, 3), (14, .ifCond .ne 6, 3), (17, .ldc 175, 2), (19, .ireturn, 1), (20, .iconst 0, 1), (21, .istore_n 3, 1), (22, .iload_n 3, 1), (23, .iload_n 1, 1), (24, .if_icmp .gt 20, 3), (27, .aload_n 0, 1), (28, .getfield 44, 3), (31, .iload_n 3, 1), (32, .aload_n 0, 1), (33, .iload_n 3, 1), (34, .invokevirtual 176, 3), (37, .iastore, 1), (38, .iinc 3 1, 3), (41, .goto (-19), 3), (44, .iload_n 2, 1), (45, .ifCond .ne 15, 3), (48, .aload_n 0, 1), (49, .iload_n 1, 1), (50, .aload_n 0, 1), (51, .getfield 164, 3), (54, .invokevirtual 171, 3), (57, .goto 46, 3), (60, .iload_n 2, 1), (61, .iconst 2, 1), (62, .if_icmp .ne 12, 3), (65, .aload_n 0, 1), (66, .getfield 44, 3), (69, .iload_n 1, 1), (70, .iaload, 1), (71, .goto 32, 3), (74, .aload_n 0, 1), (75, .iload_n 1, 1), (76, .aload_n 0, 1), (77, .getfield 164, 3), (80, .invokevirtual 171, 3), (83, .ifCond .gt 7, 3), (86, .iconst 2, 1), (87, .goto 16, 3), (90, .aload_n 0, 1), (91, .iload_n 1, 1), (92, .invokevirtual 179, 3), (95, .ifCond .eq 7, 3), (98, .iconst 1, 1), (99, .goto 4, 3), (102, .iconst 0, 1), (103, .ireturn, 1)]
def m_Rf_of : gp_M := (⟨"GoldPlateModel", "of", "(II)I"⟩, prog_14_method_13_code, 4, (some .int), 0, 0, 12, 2, cd_Rf_of)
def cd_Rf_put : List (Nat × Instr × Nat) := [(0, .iload_n 1, 1), (1, .iconst (-1), 1), (2, .if_icmp .ne 10, 3), (5, .aload_n 0, 1), (6, .iconst 0, 1), (7, .putfield 182, 3), (10, .iconst 0, 1), (11, .ireturn, 1), (12, .aload_n 0, 1), (13, .iload_n 1, 1), (14, .invokevirtual 160, 3), (17, .ifCond .ne 5, 3), (20, .iconst (-1), 1), (21, .ireturn, 1), (22, .iconst 0, 1), (23, .istore_n 2, 1), (24, .iload_n 2, 1), (25, .aload_n 0, 1), (26, .getfield 182, 3), (29, .if_icmp .ge 21, 3), (32, .aload_n 0, 1), (33, .getfield 37, 3), (36, .iload_n 2, 1), (37, .iaload, 1), (38, .iload_n 1, 1), (39, .if_icmp .ne 5, 3), (42, .iconst (-1), 1), (43, .ireturn, 1), (44, .iinc 2 1, 3), (47, .goto (-23), 3), (50, .aload_n 0, 1), (51, .getfield 37, 3), (54, .aload_n 0, 1), (55, .getfield 182, 3), (58, .iload_n 1, 1), (59, .iastore, 1), (60, .aload_n 0, 1), (61, .dup, 1), (62, .getfield 182, 3), (65, .iconst 1, 1), (66, .iadd, 1), (67, .putfield 182, 3), (70, .aload_n 0, 1), (71, .getfield 182, 3), (74, .ireturn, 1)]
def m_Rf_put : gp_M := (⟨"GoldPlateModel", "put", "(I)I"⟩, prog_14_method_14_code, 3, (some .int), 0, 0, 12, 1, cd_Rf_put)
def cd_Rf_feed : List (Nat × Instr × Nat) := [(0, .aload_n 0, 1), (1, .getfield 185, 3), (4, .bipush 20, 2), (6, .iadd, 1), (7, .sipush 500, 3), (10, .if_icmp .le 5, 3), (13, .iconst (-1), 1), (14, .ireturn, 1), (15, .iconst 0, 1), (16, .istore 6, 2), (18, .iload 6, 2), (20, .bipush 20, 2), (22, .if_icmp .ge 93, 3), (25, .iload 6, 2), (27, .iconst 4, 1), (28, .if_icmp .ge 7, 3), (31, .iload_n 1, 1), (32, .goto 39, 3), (35, .iload 6, 2), (37, .bipush 8, 2), (39, .if_icmp .ge 7, 3), (42, .iload_n 2, 1), (43, .goto 28, 3), (46, .iload 6, 2), (48, .bipush 12, 2), (50, .if_icmp .ge 7, 3), (53, .iload_n 3, 1), (54, .goto 17, 3), (57, .iload 6, 2), (59, .bipush 16, 2), (61, .if_icmp .ge 8, 3), (64, .iload 4, 2), (66, .goto 5, 3), (69, .iload 5, 2), (71, .istore 7, 2), (73, .aload_n 0, 1), (74, .getfield 80, 3), (77, .aload_n 0, 1), (78, .getfield 185, 3), (81, .iload 7, 2), (83, .bipush 24, 2), (85, .bipush 8, 2), (87, .iload 6, 2), (89, .iconst 4, 1), (90, .irem, 1), (91, .imul, 1), (92, .isub, 1), (93, .ishr, 1), (94, .sipush 255, 3), (97, .iand, 1), (98, .iastore, 1), (99, .aload_n 0, 1), (100, .dup, 1), (101, .getfield 185, 3), (104, .iconst 1, 1), (105, .iadd, 1), (106, .putfield 185, 3), (109, .iinc 6 1, 3), (112, .goto (-94), 3), (115, .aload_n 0, 1), (116, .getfield 185, 3), (119, .ireturn, 1)]
def m_Rf_feed : gp_M := (⟨"GoldPlateModel", "feed", "(IIIII)I"⟩, prog_14_method_15_code, 8, (some .int), 0, 0, 12, 5, cd_Rf_feed)
def cd_Rf_end : List (Nat × Instr × Nat) := [(0, .iload_n 1, 1), (1, .iconst 0, 1), (2, .aload_n 0, 1), (3, .getfield 185, 3), (6, .invokestatic 156, 3), (9, .ifCond .ne 5, 3), (12, .iconst 0, 1), (13, .ireturn, 1), (14, .aload_n 0, 1), (15, .iload_n 1, 1), (16, .putfield 185, 3), (19, .iconst 1, 1), (20, .ireturn, 1)]
def m_Rf_end : gp_M := (⟨"GoldPlateModel", "end", "(I)Z"⟩, prog_14_method_16_code, 2, (some .boolean), 0, 0, 12, 1, cd_Rf_end)
def cd_Rf_see : List (Nat × Instr × Nat) := [(0, .iload_n 1, 1), (1, .aload_n 0, 1), (2, .getfield 185, 3), (5, .if_icmp .ge 12, 3), (8, .aload_n 0, 1), (9, .getfield 80, 3), (12, .iload_n 1, 1), (13, .iaload, 1), (14, .goto 4, 3), (17, .iconst (-1), 1), (18, .ireturn, 1)]
def m_Rf_see : gp_M := (⟨"GoldPlateModel", "see", "(I)I"⟩, prog_14_method_17_code, 2, (some .int), 0, 0, 12, 1, cd_Rf_see)
def cd_Rf_isLetter : List (Nat × Instr × Nat) := [(0, .iload_n 0, 1), (1, .bipush 97, 2), (3, .bipush 122, 2), (5, .invokestatic 156, 3), (8, .ifCond .ne 14, 3), (11, .iload_n 0, 1), (12, .bipush 65, 2), (14, .bipush 90, 2), (16, .invokestatic 156, 3), (19, .ifCond .eq 7, 3), (22, .iconst 1, 1), (23, .goto 4, 3), (26, .iconst 0, 1), (27, .ireturn, 1)]
def m_Rf_isLetter : gp_M := (⟨"GoldPlateModel", "isLetter", "(I)Z"⟩, prog_14_method_18_code, 1, (some .boolean), 0, 0, 12, 1, cd_Rf_isLetter)
def cd_Rf_isDigit : List (Nat × Instr × Nat) := [(0, .iload_n 0, 1), (1, .bipush 48, 2), (3, .bipush 57, 2), (5, .invokestatic 156, 3), (8, .ireturn, 1)]
def m_Rf_isDigit : gp_M := (⟨"GoldPlateModel", "isDigit", "(I)Z"⟩, prog_14_method_19_code, 1, (some .boolean), 0, 0, 12, 1, cd_Rf_isDigit)
def cd_Rf_is : List (Nat × Instr × Nat) := [(0, .aload_n 0, 1), (1, .getfield 188, 3), (4, .aload_n 0, 1), (5, .getfield 191, 3), (8, .isub, 1), (9, .aload_n 1, 1), (10, .invokevirtual 194, 3), (13, .if_icmp .ne 7, 3), (16, .iconst 1, 1), (17, .goto 4, 3), (20, .iconst 0, 1), (21, .istore_n 2, 1), (22, .iconst 0, 1), (23, .istore_n 3, 1), (24, .iload_n 3, 1), (25, .aload_n 1, 1), (26, .invokevirtual 194, 3), (29, .if_icmp .ge 38, 3), (32, .iload_n 2, 1), (33, .ifCond .eq 34, 3), (36, .aload_n 0, 1), (37, .getfield 80, 3), (40, .aload_n 0, 1), (41, .getfield 191, 3), (44, .iload_n 3, 1), (45, .iadd, 1), (46, .iaload, 1), (47, .aload_n 1, 1), (48, .iload_n 3, 1), (49, .invokevirtual 200, 3), (52, .if_icmp .ne 7, 3), (55, .iconst 1, 1), (56, .goto 4, 3), (59, .iconst 0, 1), (60, .istore_n 2, 1), (61, .iinc 3 1, 3), (64, .goto (-40), 3), (67, .iload_n 2, 1), (68, .ireturn, 1)]
def m_Rf_is : gp_M := (⟨"GoldPlateModel", "is", "(Ljava/lang/String;)Z"⟩, prog_14_method_20_code, 4, (some .boolean), 0, 0, 12, 1, cd_Rf_is)
def cd_Rf_name : List (Nat × Instr × Nat) := [(0, .aload_n 0, 1), (1, .ldc 204, 2), (3, .invokevirtual 206, 3), (6, .ifCond .eq 6, 3), (9, .bipush 21, 2), (11, .ireturn, 1), (12, .aload_n 0, 1), (13, .ldc 210, 2), (15, .invokevirtual 206, 3), (18, .ifCond .eq 6, 3), (21, .bipush 22, 2), (23, .ireturn, 1), (24, .aload_n 0, 1), (25, .ldc 212, 2), (27, .invokevirtual 206, 3), (30, .ifCond .eq 6, 3), (33, .bipush 23, 2), (35, .ireturn, 1), (36, .aload_n 0, 1), (37, .ldc 213, 2), (39, .invokevirtual 206, 3), (42, .ifCond .eq 6, 3), (45, .bipush 24, 2), (47, .ireturn, 1), (48, .aload_n 0, 1), (49, .ldc 215, 2), (51, .invokevirtual 206, 3), (54, .ifCond .eq 6, 3), (57, .bipush 25, 2), (59, .ireturn, 1), (60, .aload_n 0, 1), (61, .ldc 216, 2), (63, .invokevirtual 206, 3), (66, .ifCond .eq 6, 3), (69, .bipush 26, 2), (71, .ireturn, 1), (72, .aload_n 0, 1), (73, .ldc 218, 2), (75, .invokevirtual 206, 3), (78, .ifCond .eq 6, 3), (81, .bipush 27, 2), (83, .ireturn, 1), (84, .aload_n 0, 1), (85, .ldc 220, 2), (87, .invokevirtual 206, 3), (90, .ifCond .eq 6, 3), (93, .bipush 28, 2), (95, .ireturn, 1), (96, .aload_n 0, 1), (97, .ldc 222, 2), (99, .invokevirtual 206, 3), (102, .ifCond .eq 6, 3), (105, .bipush 29, 2), (107, .ireturn, 1), (108, .aload_n 0, 1), (109, .ldc 224, 2), (111, .invokevirtual 206, 3), (114, .ifCond .eq 6, 3), (117, .bipush 30, 2), (119, .ireturn, 1), (120, .aload_n 0, 1), (121, .ldc 226, 2), (123, .invokevirtual 206, 3), (126, .ifCond .eq 6, 3), (129, .bipush 31, 2), (131, .ireturn, 1), (132, .aload_n 0, 1), (133, .ldc 228, 2), (135, .invokevirtual 206, 3), (138, .ifCond .eq 6, 3), (141, .bipush 32, 2), (143, .ireturn, 1), (144, .aload_n 0, 1), (145, .ldc 230, 2), (147, .invokevirtual 206, 3), (150, .ifCond .eq 8, 3), (153, .bipush 33, 2), (155, .goto 4, 3), (158, .iconst 1, 1), (159, .ireturn, 1)]
def m_Rf_name : gp_M := (⟨"GoldPlateModel", "name", "()I"⟩, prog_14_method_21_code, 1, (some .int), 0, 0, 12, 0, cd_Rf_name)
def cd_Rf_word : List (Nat × Instr × Nat) := [(0, .aload_n 0, 1), (1, .ldc 232, 2), (3, .invokevirtual 206, 3), (6, .ifCond .eq 6, 3), (9, .bipush 7, 2), (11, .ireturn, 1), (12, .aload_n 0, 1), (13, .ldc 234, 2), (15, .invokevirtual 206, 3), (18, .ifCond .eq 6, 3), (21, .bipush 8, 2), (23, .ireturn, 1), (24, .aload_n 0, 1), (25, .ldc 236, 2), (27, .invokevirtual 206, 3), (30, .ifCond .eq 6, 3), (33, .bipush 9, 2), (35, .ireturn, 1), (36, .aload_n 0, 1), (37, .ldc 238, 2), (39, .invokevirtual 206, 3), (42, .ifCond .eq 6, 3), (45, .bipush 10, 2), (47, .ireturn, 1), (48, .aload_n 0, 1), (49, .ldc 240, 2), (51, .invokevirtual 206, 3), (54, .ifCond .eq 6, 3), (57, .bipush 11, 2), (59, .ireturn, 1), (60, .aload_n 0, 1), (61, .ldc 242, 2), (63, .invokevirtual 206, 3), (66, .ifCond .eq 5, 3), (69, .iconst 3, 1), (70, .ireturn, 1), (71, .aload_n 0, 1), (72, .ldc 244, 2), (74, .invokevirtual 206, 3), (77, .ifCond .eq 5, 3), (80, .iconst 4, 1), (81, .ireturn, 1), (82, .aload_n 0, 1), (83, .ldc 246, 2), (85, .invokevirtual 206, 3), (88, .ifCond .eq 5, 3), (91, .iconst 5, 1), (92, .ireturn, 1), (93, .aload_n 0, 1), (94, .ldc 248, 2), (96, .invokevirtual 206, 3), (99, .ifCond .eq 8, 3), (102, .bipush 6, 2), (104, .goto 7, 3), (107, .aload_n 0, 1), (108, .invokevirtual 250, 3), (111, .ireturn, 1)]
def m_Rf_word : gp_M := (⟨"GoldPlateModel", "word", "()I"⟩, prog_14_method_22_code, 1, (some .int), 0, 0, 12, 0, cd_Rf_word)
def cd_Rf_next0 : List (Nat × Instr × Nat) := [(0, .aload_n 0, 1), (1, .aload_n 0, 1), (2, .getfield 188, 3), (5, .invokevirtual 253, 3), (8, .bipush 32, 2), (10, .if_icmp .eq 16, 3), (13, .aload_n 0, 1), (14, .aload_n 0, 1), (15, .getfield 188, 3), (18, .invokevirtual 253, 3), (21, .bipush 10, 2), (23, .if_icmp .ne 16, 3), (26, .aload_n 0, 1), (27, .dup, 1), (28, .getfield 188, 3), (31, .iconst 1, 1), (32, .iadd, 1), (33, .putfield 188, 3), (36, .goto (-36), 3), (39, .aload_n 0, 1), (40, .aload_n 0, 1), (41, .getfield 188, 3), (44, .putfield 191, 3), (47, .aload_n 0, 1), (48, .aload_n 0, 1), (49, .getfield 188, 3), (52, .invokevirtual 253, 3), (55, .istore_n 1, 1), (56, .iload_n 1, 1), (57, .iconst (-1), 1), (58, .if_icmp .ne 11, 3), (61, .aload_n 0, 1), (62, .iconst 0, 1), (63, .putfield 256, 3), (66, .goto 240, 3), (69, .iload_n 1, 1), (70, .invokestatic 259, 3), (73, .ifCond .eq 41, 3), (76, .aload_n 0, 1), (77, .aload_n 0, 1), (78, .getfield 188, 3), (81, .invokevirtual 253, 3), (84, .invokestatic 259, 3), (87, .ifCond .eq 16, 3), (90, .aload_n 0, 1), (91, .dup, 1), (92, .getfield 188, 3), (95, .iconst 1, 1), (96, .iadd, 1), (97, .putfield 188, 3), (100, .goto (-24), 3), (103, .aload_n 0, 1), (104, .aload_n 0, 1), (105, .invokevirtual 262, 3), (108, .putfield 256, 3), (111, .goto 195, 3), (114, .iload_n 1, 1), (115, .invokestatic 265, 3), (118, .ifCond .eq 96, 3), (121, .aload_n 0, 1), (122, .iconst 0, 1), (123, .putfield 268, 3), (126, .aload_n 0, 1), (127, .aload_n 0, 1), (128, .getfield 188, 3), (131, .invokevirtual 253, 3), (134, .invokestatic 265, 3), (137, .ifCond .eq 52, 3), (140, .aload_n 0, 1), (141, .getfield 188, 3), (144, .aload_n 0, 1), (145, .getfield 191, 3), (148, .iconst 4, 1), (149, .iadd, 1), (150, .if_icmp .ge 26, 3), (153, .aload_n 0, 1), (154, .bipush 10, 2), (156, .aload_n 0, 1), (157, .getfield 268, 3), (160, .imul, 1), (161, .aload_n 0, 1), (162, .aload_n 0, 1), (163, .getfield 188, 3), (166, .invokevirtual 253, 3), (169, .iadd, 1), (170, .bipush 48, 2), (172, .isub, 1), (173, .putfield 268, 3), (176, .aload_n 0, 1), (177, .dup, 1), (178, .getfield 188, 3), (181, .iconst 1, 1), (182, .iadd, 1), (183, .putfield 188, 3), (186, .goto (-60), 3), (189, .aload_n 0, 1), (190, .aload_n 0, 1), (191, .getfield 188, 3), (194, .aload_n 0, 1), (195, .getfield 191, 3), (198, .isub, 1), (199, .iconst 5, 1), (200, .if_icmp .ge 7, 3), (203, .iconst 2, 1), (204, .goto 4, 3), (207, .iconst 1, 1), (208, .putfield 256, 3), (211, .goto 95, 3), (214, .aload_n 0, 1), (215, .dup, 1), (216, .getfield 188, 3), (219, .iconst 1, 1), (220, .iadd, 1), (221, .putfield 188, 3), (224, .iload_n 1, 1), (225, .bipush 59, 2), (227, .if_icmp .eq 57, 3), (230, .iload_n 1, 1), (231, .bipush 43, 2), (233, .if_icmp .eq 51, 3), (236, .iload_n 1, 1), (237, .bipush 45, 2), (239, .if_icmp .eq 45, 3), (242, .iload_n 1, 1), (243, .bipush 42, 2), (245, .if_icmp .eq 39, 3), (248, .iload_n 1, 1), (249, .bipush 47, 2), (251, .if_icmp .eq 33, 3), (254, .iload_n 1, 1), (255, .bipush 40, 2), (257, .if_icmp .eq 27, 3), (260, .iload_n 1, 1), (261, .bipush 41, 2), (263, .if_icmp .eq 21, 3), (266, .iload_n 1, 1), (267, .bipush 60, 2), (269, .if_icmp .eq 15, 3), (272, .iload_n 1, 1), (273, .bipush 61, 2), (275, .if_icmp .eq 9, 3), (278, .iload_n 1, 1), (279, .bipush 62, 2), (281, .if_icmp .ne 7, 3), (284, .iconst 1, 1), (285, .goto 4, 3), (288, .iconst 0, 1), (289, .istore_n 2, 1), (290, .aload_n 0, 1), (291, .iload_n 2, 1), (292, .ifCond .eq 10, 3), (295, .bipush 100, 2), (297, .iload_n 1, 1), (298, .iadd, 1), (299, .goto 4, 3), (302, .iconst 1, 1), (303, .putfield 256, 3), (306, .return_, 1)]
def m_Rf_next0 : gp_M := (⟨"GoldPlateModel", "next0", "()V"⟩, prog_14_method_23_code, 3, none, 0, 0, 12, 0, cd_Rf_next0)
def cd_Rf_bad : List (Nat × Instr × Nat) := [(0, .aload_n 0, 1), (1, .iload_n 1, 1), (2, .putfield 271, 3), (5, .aload_n 0, 1), (6, .aload_n 0, 1), (7, .getfield 191, 3), (10, .putfield 274, 3), (13, .iconst 0, 1), (14, .ireturn, 1)]
def m_Rf_bad : gp_M := (⟨"GoldPlateModel", "bad", "(I)Z"⟩, prog_14_method_24_code, 2, (some .boolean), 0, 0, 12, 1, cd_Rf_bad)
def cd_Rf_need : List (Nat × Instr × Nat) := [(0, .aload_n 0, 1), (1, .getfield 256, 3), (4, .iload_n 1, 1), (5, .if_icmp .eq 9, 3), (8, .aload_n 0, 1), (9, .iconst 1, 1), (10, .invokevirtual 277, 3), (13, .ireturn, 1), (14, .aload_n 0, 1), (15, .invokevirtual 280, 3), (18, .iconst 1, 1), (19, .ireturn, 1)]
def m_Rf_need : gp_M := (⟨"GoldPlateModel", "need", "(I)Z"⟩, prog_14_method_25_code, 2, (some .boolean), 0, 0, 12, 1, cd_Rf_need)
def cd_Rf_number : List (Nat × Instr × Nat) := [(0, .aload_n 0, 1), (1, .getfield 256, 3), (4, .iconst 2, 1), (5, .if_icmp .eq 9, 3), (8, .aload_n 0, 1), (9, .iconst 1, 1), (10, .invokevirtual 277, 3), (13, .ireturn, 1), (14, .aload_n 0, 1), (15, .getfield 268, 3), (18, .iload_n 1, 1), (19, .iload_n 2, 1), (20, .invokestatic 156, 3), (23, .ifCond .ne 9, 3), (26, .aload_n 0, 1), (27, .iconst 2, 1), (28, .invokevirtual 277, 3), (31, .ireturn, 1), (32, .aload_n 0, 1), (33, .invokevirtual 280, 3), (36, .iconst 1, 1), (37, .ireturn, 1)]
def m_Rf_number : gp_M := (⟨"GoldPlateModel", "number", "(II)Z"⟩, prog_14_method_26_code, 3, (some .boolean), 0, 0, 12, 2, cd_Rf_number)
def cd_Rf_lay : List (Nat × Instr × Nat) := [(0, .aload_n 0, 1), (1, .getfield 77, 3), (4, .sipush 6120, 3), (7, .iconst 2, 1), (8, .aload_n 0, 1), (9, .getfield 283, 3), (12, .imul, 1), (13, .iadd, 1), (14, .iload_n 1, 1), (15, .iastore, 1), (16, .aload_n 0, 1), (17, .getfield 77, 3), (20, .sipush 6120, 3), (23, .iconst 2, 1), (24, .aload_n 0, 1), (25, .getfield 283, 3), (28, .imul, 1), (29, .iadd, 1), (30, .iconst 1, 1), (31, .iadd, 1), (32, .iload_n 2, 1), (33, .iastore, 1), (34, .aload_n 0, 1), (35, .dup, 1), (36, .getfield 283, 3), (39, .iconst 1, 1), (40, .iadd, 1), (41, .putfield 283, 3), (44, .return_, 1)]
def m_Rf_lay : gp_M := (⟨"GoldPlateModel", "lay", "(II)V"⟩, prog_14_method_27_code, 3, none, 0, 0, 12, 2, cd_Rf_lay)
def cd_Rf_opens : List (Nat × Instr × Nat) := [(0, .aload_n 0, 1), (1, .getfield 286, 3), (4, .bipush 8, 2), (6, .if_icmp .ne 9, 3), (9, .aload_n 0, 1), (10, .iconst 3, 1), (11, .invokevirtual 277, 3), (14, .ireturn, 1), (15, .aload_n 0, 1), (16, .dup, 1), (17, .getfield 286, 3), (20, .iconst 1, 1), (21, .iadd, 1), (22, .putfield 286, 3), (25, .aload_n 0, 1), (26, .invokevirtual 280, 3), (29, .iconst 1, 1), (30, .ireturn, 1)]
def m_Rf_opens : gp_M := (⟨"GoldPlateModel", "opens", "()Z"⟩, prog_14_method_28_code, 1, (some .boolean), 0, 0, 12, 0, cd_Rf_opens)
def cd_Rf_sumUp : List (Nat × Instr × Nat) := [(0, .aload_n 0, 1), (1, .invokevirtual 288, 3), (4, .ifCond .ne 5, 3), (7, .iconst 0, 1), (8, .ireturn, 1), (9, .aload_n 0, 1), (10, .getfield 256, 3), (13, .sipush 143, 3), (16, .if_icmp .eq 13, 3), (19, .aload_n 0, 1), (20, .getfield 256, 3), (23, .sipush 145, 3), (26, .if_icmp .ne 43, 3), (29, .aload_n 0, 1), (30, .getfield 256, 3), (33, .sipush 143, 3), (36, .if_icmp .ne 8, 3), (39, .bipush 14, 2), (41, .goto 5, 3), (44, .bipush 15, 2), (46, .istore_n 1, 1), (47, .aload_n 0, 1), (48, .invokevirtual 280, 3), (51, .aload_n 0, 1), (52, .invokevirtual 288, 3), (55, .ifCond .ne 5, 3), (58, .iconst 0, 1), (59, .ireturn, 1), (60, .aload_n 0, 1), (61, .iload_n 1, 1), (62, .iconst 0, 1), (63, .invokevirtual 292, 3), (66, .goto (-57), 3), (69, .iconst 1, 1), (70, .ireturn, 1)]
def m_Rf_sumUp : gp_M := (⟨"GoldPlateModel", "sumUp", "()Z"⟩, prog_14_method_29_code, 2, (some .boolean), 0, 0, 12, 0, cd_Rf_sumUp)
def cd_Rf_product : List (Nat × Instr × Nat) := [(0, .aload_n 0, 1), (1, .invokevirtual 296, 3), (4, .ifCond .ne 5, 3), (7, .iconst 0, 1), (8, .ireturn, 1), (9, .aload_n 0, 1), (10, .getfield 256, 3), (13, .sipush 142, 3), (16, .if_icmp .eq 13, 3), (19, .aload_n 0, 1), (20, .getfield 256, 3), (23, .sipush 147, 3), (26, .if_icmp .ne 74, 3), (29, .aload_n 0, 1), (30, .getfield 256, 3), (33, .sipush 147, 3), (36, .if_icmp .ne 7, 3), (39, .iconst 1, 1), (40, .goto 4, 3), (43, .iconst 0, 1), (44, .istore_n 1, 1), (45, .aload_n 0, 1), (46, .invokevirtual 280, 3), (49, .iload_n 1, 1), (50, .ifCond .eq 31, 3), (53, .aload_n 0, 1), (54, .getfield 268, 3), (57, .istore_n 2, 1), (58, .aload_n 0, 1), (59, .iconst 1, 1), (60, .sipush 9999, 3), (63, .invokevirtual 299, 3), (66, .ifCond .ne 5, 3), (69, .iconst 0, 1), (70, .ireturn, 1), (71, .aload_n 0, 1), (72, .bipush 17, 2), (74, .iload_n 2, 1), (75, .invokevirtual 292, 3), (78, .goto 19, 3), (81, .aload_n 0, 1), (82, .invokevirtual 296, 3), (85, .ifCond .ne 5, 3), (88, .iconst 0, 1), (89, .ireturn, 1), (90, .aload_n 0, 1), (91, .bipush 16, 2), (93, .iconst 0, 1), (94, .invokevirtual 292, 3), (97, .goto (-88), 3), (100, .iconst 1, 1), (101, .ireturn, 1)]
def m_Rf_product : gp_M := (⟨"GoldPlateModel", "product", "()Z"⟩, prog_14_method_30_code, 3, (some .boolean), 0, 0, 12, 0, cd_Rf_product)
def cd_Rf_unit : List (Nat × Instr × Nat) := [(0, .aload_n 0, 1), (1, .getfield 256, 3), (4, .bipush 21, 2), (6, .bipush 33, 2), (8, .invokestatic 156, 3), (11, .istore_n 1, 1), (12, .aload_n 0, 1), (13, .getfield 256, 3), (16, .iconst 2, 1), (17, .if_icmp .eq 13, 3), (20, .iload_n 1, 1), (21, .ifCond .ne 9, 3), (24, .aload_n 0, 1), (25, .iconst 1, 1), (26, .invokevirtual 277, 3), (29, .ireturn, 1), (30, .aload_n 0, 1), (31, .iload_n 1, 1), (32, .ifCond .eq 13, 3), (35, .aload_n 0, 1), (36, .getfield 256, 3), (39, .bipush 20, 2), (41, .isub, 1), (42, .goto 4, 3), (45, .iconst 0, 1), (46, .aload_n 0, 1), (47, .getfield 268, 3), (50, .invokevirtual 292, 3), (53, .aload_n 0, 1), (54, .invokevirtual 280, 3), (57, .iconst 1, 1), (58, .ireturn, 1)]
def m_Rf_unit : gp_M := (⟨"GoldPlateModel", "unit", "()Z"⟩, prog_14_method_31_code, 2, (some .boolean), 0, 0, 12, 0, cd_Rf_unit)
def cd_Rf_any : List (Nat × Instr × Nat) := [(0, .aload_n 0, 1), (1, .invokevirtual 303, 3), (4, .ifCond .ne 5, 3), (7, .iconst 0, 1), (8, .ireturn, 1), (9, .aload_n 0, 1), (10, .getfield 256, 3), (13, .iconst 4, 1), (14, .if_icmp .ne 26, 3), (17, .aload_n 0, 1), (18, .invokevirtual 280, 3), (21, .aload_n 0, 1), (22, .invokevirtual 303, 3), (25, .ifCond .ne 5, 3), (28, .iconst 0, 1), (29, .ireturn, 1), (30, .aload_n 0, 1), (31, .bipush 23, 2), (33, .iconst 0, 1), (34, .invokevirtual 292, 3), (37, .goto (-28), 3), (40, .iconst 1, 1), (41, .ireturn, 1)]
def m_Rf_any : gp_M := (⟨"GoldPlateModel", "any", "()Z"⟩, prog_14_method_32_code, 1, (some .boolean), 0, 0, 12, 0, cd_Rf_any)
def cd_Rf_every : List (Nat × Instr × Nat) := [(0, .aload_n 0, 1), (1, .invokevirtual 306, 3), (4, .ifCond .ne 5, 3), (7, .iconst 0, 1), (8, .ireturn, 1), (9, .aload_n 0, 1), (10, .getfield 256, 3), (13, .iconst 5, 1), (14, .if_icmp .ne 26, 3), (17, .aload_n 0, 1), (18, .invokevirtual 280, 3), (21, .aload_n 0, 1), (22, .invokevirtual 306, 3), (25, .ifCond .ne 5, 3), (28, .iconst 0, 1), (29, .ireturn, 1), (30, .aload_n 0, 1), (31, .bipush 22, 2), (33, .iconst 0, 1), (34, .invokevirtual 292, 3), (37, .goto (-28), 3), (40, .iconst 1, 1), (41, .ireturn, 1)]
def m_Rf_every : gp_M := (⟨"GoldPlateModel", "every", "()Z"⟩, prog_14_method_33_code, 1, (some .boolean), 0, 0, 12, 0, cd_Rf_every)
def cd_Rf_one : List (Nat × Instr × Nat) := [(0, .aload_n 0, 1), (1, .getfield 256, 3), (4, .bipush 6, 2), (6, .if_icmp .ne 38, 3), (9, .aload_n 0, 1), (10, .invokevirtual 309, 3), (13, .ifCond .eq 10, 3), (16, .aload_n 0, 1), (17, .invokevirtual 306, 3), (20, .ifCond .ne 5, 3), (23, .iconst 0, 1), (24, .ireturn, 1), (25, .aload_n 0, 1), (26, .dup, 1), (27, .getfield 286, 3), (30, .iconst 1, 1), (31, .isub, 1), (32, .putfield 286, 3), (35, .aload_n 0, 1), (36, .bipush 21, 2), (38, .iconst 0, 1), (39, .invokevirtual 292, 3), (42, .iconst 1, 1), (43, .ireturn, 1), (44, .aload_n 0, 1), (45, .getfield 256, 3), (48, .sipush 140, 3), (51, .if_icmp .ne 41, 3), (54, .aload_n 0, 1), (55, .invokevirtual 309, 3), (58, .ifCond .eq 20, 3), (61, .aload_n 0, 1), (62, .invokevirtual 312, 3), (65, .ifCond .eq 13, 3), (68, .aload_n 0, 1), (69, .sipush 141, 3), (72, .invokevirtual 315, 3), (75, .ifCond .ne 5, 3), (78, .iconst 0, 1), (79, .ireturn, 1), (80, .aload_n 0, 1), (81, .dup, 1), (82, .getfield 286, 3), (85, .iconst 1, 1), (86, .isub, 1), (87, .putfield 286, 3), (90, .iconst 1, 1), (91, .ireturn, 1), (92, .aload_n 0, 1), (93, .invokevirtual 318, 3), (96, .ifCond .ne 5, 3), (99, .iconst 0, 1), (100, .ireturn, 1), (101, .aload_n 0, 1), (102, .getfield 256, 3), (105, .sipush 160, 3), (108, .if_icmp .ne 8, 3), (111, .bipush 18, 2), (113, .goto 34, 3), (116, .aload_n 0, 1), (117, .getfield 256, 3), (120, .sipush 161, 3), (123, .if_icmp .ne 8, 3), (126, .bipush 19, 2), (128, .goto 19, 3), (131, .aload_n 0, 1), (132, .getfield 256, 3), (135, .sipush 162, 3), (138, .if_icmp .ne 8, 3), (141, .bipush 20, 2), (143, .goto 4, 3), (146, .iconst (-1), 1), (147, .istore_n 1, 1), (148, .iload_n 1, 1), (149, .iconst (-1), 1), (150, .if_icmp .ne 9, 3), (153, .aload_n 0, 1), (154, .iconst 1, 1), (155, .invokevirtual 277, 3), (158, .ireturn, 1), (159, .aload_n 0, 1), (160, .invokevirtual 280, 3), (163, .aload_n 0, 1), (164, .invokevirtual 318, 3), (167, .ifCond .ne 5, 3), (170, .iconst 0, 1), (171, .ireturn, 1), (172, .aload_n 0, 1), (173, .iload_n 1, 1), (174, .iconst 0, 1), (175, .invokevirtual 292, 3), (178, .iconst 1, 1), (179, .ireturn, 1)]
def m_Rf_one : gp_M := (⟨"GoldPlateModel", "one", "()Z"⟩, prog_14_method_34_code, 2, (some .boolean), 0, 0, 12, 0, cd_Rf_one)
def cd_Rf_aPrice : List (Nat × Instr × Nat) := [(0, .bipush 96, 2), (2, .aload_n 0, 1), (3, .getfield 56, 3), (6, .bipush 6, 2), (8, .iaload, 1), (9, .iadd, 1), (10, .istore_n 1, 1), (11, .aload_n 0, 1), (12, .getfield 68, 3), (15, .iload_n 1, 1), (16, .aload_n 0, 1), (17, .getfield 283, 3), (20, .iastore, 1), (21, .aload_n 0, 1), (22, .invokevirtual 318, 3), (25, .ifCond .ne 5, 3), (28, .iconst 0, 1), (29, .ireturn, 1), (30, .aload_n 0, 1), (31, .getfield 71, 3), (34, .iload_n 1, 1), (35, .aload_n 0, 1), (36, .getfield 283, 3), (39, .iastore, 1), (40, .aload_n 0, 1), (41, .getfield 74, 3), (44, .iload_n 1, 1), (45, .aload_n 0, 1), (46, .getfield 283, 3), (49, .iastore, 1), (50, .aload_n 0, 1), (51, .getfield 256, 3), (54, .iconst 3, 1), (55, .if_icmp .ne 26, 3), (58, .aload_n 0, 1), (59, .invokevirtual 280, 3), (62, .aload_n 0, 1), (63, .invokevirtual 312, 3), (66, .ifCond .ne 5, 3), (69, .iconst 0, 1), (70, .ireturn, 1), (71, .aload_n 0, 1), (72, .getfield 74, 3), (75, .iload_n 1, 1), (76, .aload_n 0, 1), (77, .getfield 283, 3), (80, .iastore, 1), (81, .aload_n 0, 1), (82, .getfield 56, 3), (85, .bipush 6, 2), (87, .dup2, 1), (88, .iaload, 1), (89, .iconst 1, 1), (90, .iadd, 1), (91, .iastore, 1), (92, .iconst 1, 1), (93, .ireturn, 1)]
def m_Rf_aPrice : gp_M := (⟨"GoldPlateModel", "aPrice", "()Z"⟩, prog_14_method_35_code, 2, (some .boolean), 0, 0, 12, 0, cd_Rf_aPrice)
def cd_Rf_aLine : List (Nat × Instr × Nat) := [(0, .aload_n 0, 1), (1, .getfield 256, 3), (4, .istore_n 1, 1), (5, .iload_n 1, 1), (6, .bipush 7, 2), (8, .bipush 11, 2), (10, .invokestatic 156, 3), (13, .ifCond .ne 9, 3), (16, .aload_n 0, 1), (17, .iconst 1, 1), (18, .invokevirtual 277, 3), (21, .ireturn, 1), (22, .aload_n 0, 1), (23, .getfield 59, 3), (26, .bipush 6, 2), (28, .iaload, 1), (29, .bipush 16, 2), (31, .if_icmp .eq 35, 3), (34, .iload_n 1, 1), (35, .bipush 9, 2), (37, .if_icmp .ne 13, 3), (40, .aload_n 0, 1), (41, .getfield 89, 3), (44, .bipush 6, 2), (46, .baload, 1), (47, .ifCond .ne 19, 3), (50, .iload_n 1, 1), (51, .bipush 11, 2), (53, .if_icmp .ne 19, 3), (56, .aload_n 0, 1), (57, .getfield 93, 3), (60, .bipush 6, 2), (62, .baload, 1), (63, .ifCond .eq 9, 3), (66, .aload_n 0, 1), (67, .iconst 3, 1), (68, .invokevirtual 277, 3), (71, .ireturn, 1), (72, .aload_n 0, 1), (73, .iconst 0, 1), (74, .putfield 286, 3), (77, .aload_n 0, 1), (78, .invokevirtual 280, 3), (81, .aload_n 0, 1), (82, .getfield 268, 3), (85, .istore_n 2, 1), (86, .iload_n 1, 1), (87, .bipush 10, 2), (89, .if_icmp .ge 35, 3), (92, .aload_n 0, 1), (93, .iconst 0, 1), (94, .iload_n 1, 1), (95, .bipush 7, 2), (97, .if_icmp .ne 7, 3), (100, .iconst 3, 1), (101, .goto 15, 3), (104, .iload_n 1, 1), (105, .bipush 8, 2), (107, .if_icmp .ne 8, 3), (110, .bipush 7, 2), (112, .goto 4, 3), (115, .iconst 1, 1), (116, .invokevirtual 299, 3), (119, .ifCond .ne 5, 3), (122, .iconst 0, 1), (123, .ireturn, 1), (124, .iload_n 1, 1), (125, .bipush 7, 2), (127, .if_icmp .ne 16, 3), (130, .aload_n 0, 1), (131, .getfield 47, 3), (134, .bipush 6, 2), (136, .dup2, 1), (137, .iaload, 1), (138, .iconst 1, 1), (139, .iload_n 2, 1), (140, .ishl, 1), (141, .ior, 1), (142, .iastore, 1), (143, .iload_n 1, 1), (144, .bipush 8, 2), (146, .if_icmp .ne 16, 3), (149, .aload_n 0, 1), (150, .getfield 50, 3), (153, .bipush 6, 2), (155, .dup2, 1), (156, .iaload, 1), (157, .iconst 1, 1), (158, .iload_n 2, 1), (159, .ishl, 1), (160, .ior, 1), (161, .iastore, 1), (162, .iload_n 1, 1), (163, .bipush 9, 2), (165, .if_icmp .ne 19, 3), (168, .aload_n 0, 1), (169, .getfield 89, 3), (172, .bipush 6, 2), (174, .iconst 1, 1), (175, .bastore, 1), (176, .aload_n 0, 1), (177, .getfield 53, 3), (180, .bipush 6, 2), (182, .iload_n 2, 1), (183, .iastore, 1), (184, .iload_n 1, 1), (185, .bipush 10, 2), (187, .if_icmp .ne 12, 3), (190, .aload_n 0, 1), (191, .invokevirtual 321, 3), (194, .ifCond .ne 5, 3), (197, .iconst 0, 1), (198, .ireturn, 1), (199, .iload_n 1, 1), (200, .bipush 11, 2), (202, .if_icmp .ne 42, 3), (205, .aload_n 0, 1), (206, .getfield 93, 3), (209, .bipush 6, 2), (211, .iconst 1, 1), (212, .bastore, 1), (213, .aload_n 0, 1), (214, .getfield 62, 3), (217, .bipush 6, 2), (219, .aload_n 0, 1), (220, .getfield 283, 3), (223, .iastore, 1), (224, .aload_n 0, 1), (225, .invokevirtual 318, 3), (228, .ifCond .ne 5, 3), (231, .iconst 0, 1), (232, .ireturn, 1), (233, .aload_n 0, 1), (234, .getfield 65, 3), (237, .bipush 6, 2), (239, .aload_n 0, 1), (240, .getfield 283, 3), (243, .iastore, 1), (244, .aload_n 0, 1), (245, .getfield 59, 3), (248, .bipush 6, 2), (250, .dup2, 1), (251, .iaload, 1), (252, .iconst 1, 1), (253, .iadd, 1), (254, .iastore, 1), (255, .aload_n 0, 1), (256, .sipush 159, 3), (259, .invokevirtual 315, 3), (262, .ireturn, 1)]
def m_Rf_aLine : gp_M := (⟨"GoldPlateModel", "aLine", "()Z"⟩, prog_14_method_36_code, 3, (some .boolean), 0, 0, 12, 0, cd_Rf_aLine)
def cd_Rf_takesMind : List (Nat × Instr × Nat) := [(0, .aload_n 0, 1), (1, .getfield 47, 3), (4, .iload_n 1, 1), (5, .aload_n 0, 1), (6, .getfield 47, 3), (9, .iload_n 2, 1), (10, .iaload, 1), (11, .iastore, 1), (12, .aload_n 0, 1), (13, .getfield 50, 3), (16, .iload_n 1, 1), (17, .aload_n 0, 1), (18, .getfield 50, 3), (21, .iload_n 2, 1), (22, .iaload, 1), (23, .iastore, 1), (24, .aload_n 0, 1), (25, .getfield 53, 3), (28, .iload_n 1, 1), (29, .aload_n 0, 1), (30, .getfield 53, 3), (33, .iload_n 2, 1), (34, .iaload, 1), (35, .iastore, 1), (36, .aload_n 0, 1), (37, .getfield 56, 3), (40, .iload_n 1, 1), (41, .aload_n 0, 1), (42, .getfield 56, 3), (45, .iload_n 2, 1), (46, .iaload, 1), (47, .iastore, 1), (48, .aload_n 0, 1), (49, .getfield 59, 3), (52, .iload_n 1, 1), (53, .aload_n 0, 1), (54, .getfield 59, 3), (57, .iload_n 2, 1), (58, .iaload, 1), (59, .iastore, 1), (60, .aload_n 0, 1), (61, .getfield 89, 3), (64, .iload_n 1, 1), (65, .aload_n 0, 1), (66, .getfield 89, 3), (69, .iload_n 2, 1), (70, .baload, 1), (71, .bastore, 1), (72, .aload_n 0, 1), (73, .getfield 93, 3), (76, .iload_n 1, 1), (77, .aload_n 0, 1), (78, .getfield 93, 3), (81, .iload_n 2, 1), (82, .baload, 1), (83, .bastore, 1), (84, .aload_n 0, 1), (85, .getfield 62, 3), (88, .iload_n 1, 1), (89, .aload_n 0, 1), (90, .getfield 62, 3), (93, .iload_n 2, 1), (94, .iaload, 1), (95, .iastore, 1), (96, .aload_n 0, 1), (97, .getfield 65, 3), (100, .iload_n 1, 1), (101, .aload_n 0, 1), (102, .getfield 65, 3), (105, .iload_n 2, 1), (106, .iaload, 1), (107, .iastore, 1), (108, .iconst 0, 1), (109, .istore_n 3, 1), (110, .iload_n 3, 1), (111, .bipush 16, 2), (113, .if_icmp .ge 75, 3), (116, .aload_n 0, 1), (117, .getfield 68, 3), (120, .bipush 16, 2), (122, .iload_n 1, 1), (123, .imul, 1), (124, .iload_n 3, 1), (125, .iadd, 1), (126, .aload_n 0, 1), (127, .getfield 68, 3), (130, .bipush 16, 2), (132, .iload_n 2, 1), (133, .imul, 1), (134, .iload_n 3, 1), (135, .iadd, 1), (136, .iaload, 1), (137, .iastore, 1), (138, .aload_n 0, 1), (139, .getfield 71, 3), (142, .bipush 16, 2), (144, .iload_n 1, 1), (145, .imul, 1), (146, .iload_n 3, 1), (147, .iadd, 1), (148, .aload_n 0, 1), (149, .getfield 71, 3), (152, .bipush 16, 2), (154, .iload_n 2, 1), (155, .imul, 1), (156, .iload_n 3, 1), (157, .iadd, 1), (158, .iaload, 1), (159, .iastore, 1), (160, .aload_n 0, 1), (161, .getfield 74, 3), (164, .bipush 16, 2), (166, .iload_n 1, 1), (167, .imul, 1), (168, .iload_n 3, 1), (169, .iadd, 1), (170, .aload_n 0, 1), (171, .getfield 74, 3), (174, .bipush 16, 2), (176, .iload_n 2, 1), (177, .imul, 1), (178, .iload_n 3, 1), (179, .iadd, 1), (180, .iaload, 1), (181, .iastore, 1), (182, .iinc 3 1, 3), (185, .goto (-75), 3), (188, .iconst 0, 1), (189, .istore_n 3, 1), (190, .iload_n 3, 1), (191, .sipush 1020, 3), (194, .if_icmp .ge 33, 3), (197, .aload_n 0, 1), (198, .getfield 77, 3), (201, .sipush 1020, 3), (204, .iload_n 1, 1), (205, .imul, 1), (206, .iload_n 3, 1), (207, .iadd, 1), (208, .aload_n 0, 1), (209, .getfield 77, 3), (212, .sipush 1020, 3), (215, .iload_n 2, 1), (216, .imul, 1), (217, .iload_n 3, 1), (218, .iadd, 1), (219, .iaload, 1), (220, .iastore, 1), (221, .iinc 3 1, 3), (224, .goto (-34), 3), (227, .return_, 1)]
def m_Rf_takesMind : gp_M := (⟨"GoldPlateModel", "takesMind", "(II)V"⟩, prog_14_method_37_code, 4, none, 0, 0, 12, 2, cd_Rf_takesMind)
def cd_Rf_isMind : List (Nat × Instr × Nat) := [(0, .iload_n 1, 1), (1, .iconst 0, 1), (2, .iconst 5, 1), (3, .invokestatic 156, 3), (6, .ireturn, 1)]
def m_Rf_isMind : gp_M := (⟨"GoldPlateModel", "isMind", "(I)Z"⟩, prog_14_method_38_code, 2, (some .boolean), 0, 0, 12, 1, cd_Rf_isMind)
def cd_Rf_mind : List (Nat × Instr × Nat) := [(0, .aload_n 0, 1), (1, .iconst 0, 1), (2, .putfield 271, 3), (5, .aload_n 0, 1), (6, .iload_n 1, 1), (7, .invokevirtual 324, 3), (10, .ifCond .ne 20, 3), (13, .aload_n 0, 1), (14, .iconst 0, 1), (15, .putfield 185, 3), (18, .aload_n 0, 1), (19, .iconst 0, 1), (20, .putfield 327, 3), (23, .aload_n 0, 1), (24, .iconst (-1), 1), (25, .putfield 96, 3), (28, .iconst (-1), 1), (29, .ireturn, 1), (30, .aload_n 0, 1), (31, .iconst 0, 1), (32, .putfield 188, 3), (35, .aload_n 0, 1), (36, .iconst 0, 1), (37, .putfield 283, 3), (40, .aload_n 0, 1), (41, .getfield 47, 3), (44, .bipush 6, 2), (46, .iconst 0, 1), (47, .iastore, 1), (48, .aload_n 0, 1), (49, .getfield 50, 3), (52, .bipush 6, 2), (54, .iconst 0, 1), (55, .iastore, 1), (56, .aload_n 0, 1), (57, .getfield 53, 3), (60, .bipush 6, 2), (62, .iconst 0, 1), (63, .iastore, 1), (64, .aload_n 0, 1), (65, .getfield 56, 3), (68, .bipush 6, 2), (70, .iconst 0, 1), (71, .iastore, 1), (72, .aload_n 0, 1), (73, .getfield 59, 3), (76, .bipush 6, 2), (78, .iconst 0, 1), (79, .iastore, 1), (80, .aload_n 0, 1), (81, .getfield 89, 3), (84, .bipush 6, 2), (86, .iconst 0, 1), (87, .bastore, 1), (88, .aload_n 0, 1), (89, .getfield 93, 3), (92, .bipush 6, 2), (94, .iconst 0, 1), (95, .bastore, 1), (96, .aload_n 0, 1), (97, .invokevirtual 280, 3), (100, .iconst 1, 1), (101, .istore_n 2, 1), (102, .iload_n 2, 1), (103, .ifCond .eq 18, 3), (106, .aload_n 0, 1), (107, .getfield 256, 3), (110, .ifCond .eq 11, 3), (113, .aload_n 0, 1), (114, .invokevirtual 330, 3), (117, .istore_n 2, 1), (118, .goto (-16), 3), (121, .aload_n 0, 1), (122, .iconst 0, 1), (123, .putfield 185, 3), (126, .aload_n 0, 1), (127, .aload_n 0, 1), (128, .getfield 271, 3), (131, .putfield 327, 3), (134, .aload_n 0, 1), (135, .iload_n 2, 1), (136, .ifCond .eq 7, 3), (139, .iconst (-1), 1), (140, .goto 7, 3), (143, .aload_n 0, 1), (144, .getfield 274, 3), (147, .putfield 96, 3), (150, .iload_n 2, 1), (151, .ifCond .ne 5, 3), (154, .iconst (-1), 1), (155, .ireturn, 1), (156, .aload_n 0, 1), (157, .iload_n 1, 1), (158, .bipush 6, 2), (160, .invokevirtual 333, 3), (163, .aload_n 0, 1), (164, .getfield 59, 3), (167, .iload_n 1, 1), (168, .iaload, 1), (169, .ireturn, 1)]
def m_Rf_mind : gp_M := (⟨"GoldPlateModel", "mind", "(I)I"⟩, prog_14_method_39_code, 3, (some .int), 0, 0, 12, 1, cd_Rf_mind)
def cd_Rf_fault : List (Nat × Instr × Nat) := [(0, .iload_n 1, 1), (1, .ifCond .ne 10, 3), (4, .aload_n 0, 1), (5, .getfield 327, 3), (8, .goto 16, 3), (11, .iload_n 1, 1), (12, .iconst 1, 1), (13, .if_icmp .ne 10, 3), (16, .aload_n 0, 1), (17, .getfield 96, 3), (20, .goto 4, 3), (23, .iconst (-1), 1), (24, .ireturn, 1)]
def m_Rf_fault : gp_M := (⟨"GoldPlateModel", "fault", "(I)I"⟩, prog_14_method_40_code, 2, (some .int), 0, 0, 12, 1, cd_Rf_fault)
def cd_Rf_both : List (Nat × Instr × Nat) := [(0, .iload_n 0, 1), (1, .tableswitch 100 14 22 #[51, 55, 59, 100, 63, 74, 85, 100, 96], 51), (52, .iload_n 1, 1), (53, .iload_n 2, 1), (54, .iadd, 1), (55, .ireturn, 1), (56, .iload_n 1, 1), (57, .iload_n 2, 1), (58, .isub, 1), (59, .ireturn, 1), (60, .iload_n 1, 1), (61, .iload_n 2, 1), (62, .imul, 1), (63, .ireturn, 1), (64, .iload_n 1, 1), (65, .iload_n 2, 1), (66, .if_icmp .ge 7, 3), (69, .iconst 1, 1), (70, .goto 4, 3), (73, .iconst 0, 1), (74, .ireturn, 1), (75, .iload_n 1, 1), (76, .iload_n 2, 1), (77, .if_icmp .ne 7, 3), (80, .iconst 1, 1), (81, .goto 4, 3), (84, .iconst 0, 1), (85, .ireturn, 1), (86, .iload_n 1, 1), (87, .iload_n 2, 1), (88, .if_icmp .le 7, 3), (91, .iconst 1, 1), (92, .goto 4, 3), (95, .iconst 0, 1), (96, .ireturn, 1), (97, .iload_n 1, 1), (98, .iload_n 2, 1), (99, .iand, 1), (100, .ireturn, 1), (101, .iload_n 1, 1), (102, .iload_n 2, 1), (103, .ior, 1), (104, .ireturn, 1)]
def m_Rf_both : gp_M := (⟨"GoldPlateModel", "both", "(III)I"⟩, prog_14_method_41_code, 3, (some .int), 0, 0, 12, 3, cd_Rf_both)
def cd_Rf_comesTo : List (Nat × Instr × Nat) := [(0, .iconst 0, 1), (1, .istore 4, 2), (3, .iload_n 2, 1), (4, .istore 5, 2), (6, .iload 5, 2), (8, .iload_n 3, 1), (9, .if_icmp .ge 169, 3), (12, .aload_n 0, 1), (13, .getfield 77, 3), (16, .sipush 1020, 3), (19, .iload_n 1, 1), (20, .imul, 1), (21, .iconst 2, 1), (22, .iload 5, 2), (24, .imul, 1), (25, .iadd, 1), (26, .iaload, 1), (27, .istore 6, 2), (29, .aload_n 0, 1), (30, .getfield 77, 3), (33, .sipush 1020, 3), (36, .iload_n 1, 1), (37, .imul, 1), (38, .iconst 2, 1), (39, .iload 5, 2), (41, .imul, 1), (42, .iadd, 1), (43, .iconst 1, 1), (44, .iadd, 1), (45, .iaload, 1), (46, .istore 7, 2), (48, .iload 6, 2), (50, .bipush 14, 2), (52, .if_icmp .ge 33, 3), (55, .aload_n 0, 1), (56, .getfield 83, 3), (59, .iload 4, 2), (61, .iload 6, 2), (63, .ifCond .ne 8, 3), (66, .iload 7, 2), (68, .goto 10, 3), (71, .aload_n 0, 1), (72, .getfield 86, 3), (75, .iload 6, 2), (77, .iaload, 1), (78, .iastore, 1), (79, .iinc 4 1, 3), (82, .goto 90, 3), (85, .iload 6, 2), (87, .bipush 17, 2), (89, .if_icmp .ne 20, 3), (92, .aload_n 0, 1), (93, .getfield 83, 3), (96, .iload 4, 2), (98, .iconst 1, 1), (99, .isub, 1), (100, .dup2, 1), (101, .iaload, 1), (102, .iload 7, 2), (104, .idiv, 1), (105, .iastore, 1), (106, .goto 66, 3), (109, .iload 6, 2), (111, .bipush 21, 2), (113, .if_icmp .ne 26, 3), (116, .aload_n 0, 1), (117, .getfield 83, 3), (120, .iload 4, 2), (122, .iconst 1, 1), (123, .isub, 1), (124, .iconst 1, 1), (125, .aload_n 0, 1), (126, .getfield 83, 3), (129, .iload 4, 2), (131, .iconst 1, 1), (132, .isub, 1), (133, .iaload, 1), (134, .isub, 1), (135, .iastore, 1), (136, .goto 36, 3), (139, .iinc 4 (-1), 3), (142, .aload_n 0, 1), (143, .getfield 83, 3), (146, .iload 4, 2), (148, .iconst 1, 1), (149, .isub, 1), (150, .iload 6, 2), (152, .aload_n 0, 1), (153, .getfield 83, 3), (156, .iload 4, 2), (158, .iconst 1, 1), (159, .isub, 1), (160, .iaload, 1), (161, .aload_n 0, 1), (162, .getfield 83, 3), (165, .iload 4, 2), (167, .iaload, 1), (168, .invokestatic 336, 3), (171, .iastore, 1), (172, .iinc 5 1, 3), (175, .goto (-169), 3), (178, .aload_n 0, 1), (179, .getfield 83, 3), (182, .iconst 0, 1), (183, .iaload, 1), (184, .ireturn, 1)]
def m_Rf_comesTo : gp_M := (⟨"GoldPlateModel", "comesTo", "(III)I"⟩, prog_14_method_42_code, 8, (some .int), 0, 0, 12, 3, cd_Rf_comesTo)
def cd_Rf_priceNow : List (Nat × Instr × Nat) := [(0, .iconst 0, 1), (1, .istore_n 2, 1), (2, .iload_n 2, 1), (3, .aload_n 0, 1), (4, .getfield 56, 3), (7, .iload_n 1, 1), (8, .iaload, 1), (9, .if_icmp .ge 100, 3), (12, .bipush 16, 2), (14, .iload_n 1, 1), (15, .imul, 1), (16, .iload_n 2, 1), (17, .iadd, 1), (18, .istore_n 3, 1), (19, .aload_n 0, 1), (20, .getfield 74, 3), (23, .iload_n 3, 1), (24, .iaload, 1), (25, .aload_n 0, 1), (26, .getfield 71, 3), (29, .iload_n 3, 1), (30, .iaload, 1), (31, .if_icmp .le 27, 3), (34, .aload_n 0, 1), (35, .iload_n 1, 1), (36, .aload_n 0, 1), (37, .getfield 71, 3), (40, .iload_n 3, 1), (41, .iaload, 1), (42, .aload_n 0, 1), (43, .getfield 74, 3), (46, .iload_n 3, 1), (47, .iaload, 1), (48, .invokevirtual 340, 3), (51, .iconst 1, 1), (52, .if_icmp .eq 6, 3), (55, .goto 48, 3), (58, .aload_n 0, 1), (59, .iload_n 1, 1), (60, .aload_n 0, 1), (61, .getfield 68, 3), (64, .iload_n 3, 1), (65, .iaload, 1), (66, .aload_n 0, 1), (67, .getfield 71, 3), (70, .iload_n 3, 1), (71, .iaload, 1), (72, .invokevirtual 340, 3), (75, .istore 4, 2), (77, .iload 4, 2), (79, .ifCond .ge 7, 3), (82, .iconst 0, 1), (83, .goto 19, 3), (86, .iload 4, 2), (88, .sipush 999, 3), (91, .if_icmp .le 9, 3), (94, .sipush 999, 3), (97, .goto 5, 3), (100, .iload 4, 2), (102, .ireturn, 1), (103, .iinc 2 1, 3), (106, .goto (-104), 3), (109, .iconst 0, 1), (110, .ireturn, 1)]
def m_Rf_priceNow : gp_M := (⟨"GoldPlateModel", "priceNow", "(I)I"⟩, prog_14_method_43_code, 5, (some .int), 0, 0, 12, 1, cd_Rf_priceNow)
def cd_Rf_canSee : List (Nat × Instr × Nat) := [(0, .aload_n 0, 1), (1, .getfield 22, 3), (4, .iload_n 2, 1), (5, .iaload, 1), (6, .aload_n 0, 1), (7, .getfield 47, 3), (10, .iload_n 1, 1), (11, .iaload, 1), (12, .iconst (-1), 1), (13, .ixor, 1), (14, .iand, 1), (15, .ifCond .ne 16, 3), (18, .aload_n 0, 1), (19, .iload_n 2, 1), (20, .iload_n 3, 1), (21, .invokevirtual 171, 3), (24, .ifCond .le 7, 3), (27, .iconst 1, 1), (28, .goto 4, 3), (31, .iconst 0, 1), (32, .ireturn, 1)]
def m_Rf_canSee : gp_M := (⟨"GoldPlateModel", "canSee", "(III)Z"⟩, prog_14_method_44_code, 4, (some .boolean), 0, 0, 12, 3, cd_Rf_canSee)
def cd_Rf_thing : List (Nat × Instr × Nat) := [(0, .iload_n 2, 1), (1, .iconst 1, 1), (2, .if_icmp .ne 12, 3), (5, .aload_n 0, 1), (6, .getfield 13, 3), (9, .iload_n 1, 1), (10, .iaload, 1), (11, .goto 15, 3), (14, .aload_n 0, 1), (15, .getfield 31, 3), (18, .iconst 2, 1), (19, .iload_n 1, 1), (20, .imul, 1), (21, .iload_n 2, 1), (22, .iadd, 1), (23, .iconst 2, 1), (24, .isub, 1), (25, .iaload, 1), (26, .ireturn, 1)]
def m_Rf_thing : gp_M := (⟨"GoldPlateModel", "thing", "(II)I"⟩, prog_14_method_45_code, 3, (some .int), 0, 0, 12, 2, cd_Rf_thing)
def cd_Rf_laysPrices : List (Nat × Instr × Nat) := [(0, .aload_n 0, 1), (1, .iload_n 1, 1), (2, .putfield 343, 3), (5, .iconst 0, 1), (6, .istore_n 2, 1), (7, .iload_n 2, 1), (8, .bipush 14, 2), (10, .if_icmp .ge 16, 3), (13, .aload_n 0, 1), (14, .getfield 86, 3), (17, .iload_n 2, 1), (18, .iconst 0, 1), (19, .iastore, 1), (20, .iinc 2 1, 3), (23, .goto (-16), 3), (26, .iconst 0, 1), (27, .istore_n 2, 1), (28, .iload_n 2, 1), (29, .aload_n 0, 1), (30, .getfield 182, 3), (33, .if_icmp .ge 202, 3), (36, .aload_n 0, 1), (37, .getfield 37, 3), (40, .iload_n 2, 1), (41, .iaload, 1), (42, .istore_n 3, 1), (43, .aload_n 0, 1), (44, .getfield 86, 3), (47, .iconst 1, 1), (48, .aload_n 0, 1), (49, .getfield 7, 3), (52, .iload_n 3, 1), (53, .iaload, 1), (54, .iastore, 1), (55, .aload_n 0, 1), (56, .getfield 86, 3), (59, .iconst 2, 1), (60, .aload_n 0, 1), (61, .getfield 16, 3), (64, .iload_n 3, 1), (65, .iaload, 1), (66, .iastore, 1), (67, .aload_n 0, 1), (68, .getfield 86, 3), (71, .iconst 3, 1), (72, .aload_n 0, 1), (73, .iload_n 3, 1), (74, .aload_n 0, 1), (75, .getfield 164, 3), (78, .invokevirtual 171, 3), (81, .ifCond .ge 7, 3), (84, .iconst 0, 1), (85, .goto 12, 3), (88, .aload_n 0, 1), (89, .iload_n 3, 1), (90, .aload_n 0, 1), (91, .getfield 164, 3), (94, .invokevirtual 171, 3), (97, .iastore, 1), (98, .aload_n 0, 1), (99, .getfield 86, 3), (102, .iconst 4, 1), (103, .aload_n 0, 1), (104, .iload_n 3, 1), (105, .invokevirtual 179, 3), (108, .ifCond .eq 7, 3), (111, .iconst 1, 1), (112, .goto 4, 3), (115, .iconst 0, 1), (116, .iastore, 1), (117, .aload_n 0, 1), (118, .getfield 86, 3), (121, .bipush 6, 2), (123, .iload_n 2, 1), (124, .iastore, 1), (125, .iconst 0, 1), (126, .istore 4, 2), (128, .iload 4, 2), (130, .iconst 4, 1), (131, .if_icmp .ge 98, 3), (134, .aload_n 0, 1), (135, .getfield 86, 3), (138, .iconst 5, 1), (139, .iload 4, 2), (141, .iconst 1, 1), (142, .if_icmp .le 7, 3), (145, .iconst 1, 1), (146, .goto 4, 3), (149, .iconst 0, 1), (150, .iastore, 1), (151, .aload_n 0, 1), (152, .getfield 86, 3), (155, .bipush 8, 2), (157, .iload 4, 2), (159, .ifCond .ne 7, 3), (162, .iconst 1, 1), (163, .goto 4, 3), (166, .iconst 0, 1), (167, .iastore, 1), (168, .iconst 0, 1), (169, .istore 5, 2), (171, .iload 5, 2), (173, .iconst 2, 1), (174, .if_icmp .ge 49, 3), (177, .aload_n 0, 1), (178, .getfield 86, 3), (181, .bipush 7, 2), (183, .iload 4, 2), (185, .ifCond .ne 7, 3), (188, .iconst 0, 1), (189, .goto 5, 3), (192, .iload 5, 2), (194, .iastore, 1), (195, .aload_n 0, 1), (196, .getfield 99, 3), (199, .bipush 8, 2), (201, .iload_n 2, 1), (202, .imul, 1), (203, .iconst 2, 1), (204, .iload 4, 2), (206, .imul, 1), (207, .iadd, 1), (208, .iload 5, 2), (210, .iadd, 1), (211, .aload_n 0, 1), (212, .iload_n 1, 1), (213, .invokevirtual 346, 3), (216, .iastore, 1), (217, .iinc 5 1, 3), (220, .goto (-49), 3), (223, .iinc 4 1, 3), (226, .goto (-98), 3), (229, .iinc 2 1, 3), (232, .goto (-204), 3), (235, .return_, 1)]
def m_Rf_laysPrices : gp_M := (⟨"GoldPlateModel", "laysPrices", "(I)V"⟩, prog_14_method_46_code, 6, none, 0, 0, 12, 1, cd_Rf_laysPrices)
def cd_Rf_canTake : List (Nat × Instr × Nat) := [(0, .aload_n 0, 1), (1, .getfield 37, 3), (4, .iload_n 1, 1), (5, .iaload, 1), (6, .istore_n 3, 1), (7, .iload_n 2, 1), (8, .ifCond .ne 5, 3), (11, .iconst 1, 1), (12, .ireturn, 1), (13, .aload_n 0, 1), (14, .aload_n 0, 1), (15, .getfield 343, 3), (18, .iload_n 3, 1), (19, .aload_n 0, 1), (20, .getfield 164, 3), (23, .invokevirtual 349, 3), (26, .ifCond .ne 5, 3), (29, .iconst 0, 1), (30, .ireturn, 1), (31, .iload_n 2, 1), (32, .iconst 1, 1), (33, .if_icmp .le 25, 3), (36, .aload_n 0, 1), (37, .getfield 31, 3), (40, .iconst 2, 1), (41, .iload_n 3, 1), (42, .imul, 1), (43, .iload_n 2, 1), (44, .iadd, 1), (45, .iconst 2, 1), (46, .isub, 1), (47, .iaload, 1), (48, .iconst (-1), 1), (49, .if_icmp .eq 7, 3), (52, .iconst 1, 1), (53, .goto 4, 3), (56, .iconst 0, 1), (57, .ireturn, 1), (58, .iconst 0, 1), (59, .istore 4, 2), (61, .iconst 0, 1), (62, .istore 5, 2), (64, .iload 5, 2), (66, .iload_n 1, 1), (67, .if_icmp .ge 38, 3), (70, .iload 4, 2), (72, .aload_n 0, 1), (73, .getfield 102, 3), (76, .iload 5, 2), (78, .iaload, 1), (79, .iconst 1, 1), (80, .if_icmp .ne 15, 3), (83, .iconst 1, 1), (84, .aload_n 0, 1), (85, .getfield 37, 3), (88, .iload 5, 2), (90, .iaload, 1), (91, .ishl, 1), (92, .goto 4, 3), (95, .iconst 0, 1), (96, .ior, 1), (97, .istore 4, 2), (99, .iinc 5 1, 3), (102, .goto (-38), 3), (105, .aload_n 0, 1), (106, .getfield 25, 3), (109, .iload_n 3, 1), (110, .iaload, 1), (111, .iload 4, 2), (113, .iconst (-1), 1), (114, .ixor, 1), (115, .iand, 1), (116, .ifCond .ne 28, 3), (119, .aload_n 0, 1), (120, .getfield 28, 3), (123, .iload_n 3, 1), (124, .iaload, 1), (125, .aload_n 0, 1), (126, .getfield 50, 3), (129, .aload_n 0, 1), (130, .getfield 343, 3), (133, .iaload, 1), (134, .iconst (-1), 1), (135, .ixor, 1), (136, .iand, 1), (137, .ifCond .ne 7, 3), (140, .iconst 1, 1), (141, .goto 4, 3), (144, .iconst 0, 1), (145, .ireturn, 1)]
def m_Rf_canTake : gp_M := (⟨"GoldPlateModel", "canTake", "(II)Z"⟩, prog_14_method_47_code, 6, (some .boolean), 0, 0, 12, 2, cd_Rf_canTake)
def cd_Rf_isTwice : List (Nat × Instr × Nat) := [(0, .iconst 0, 1), (1, .istore_n 3, 1), (2, .iload_n 3, 1), (3, .iload_n 1, 1), (4, .if_icmp .ge 54, 3), (7, .iload_n 2, 1), (8, .ifCond .le 50, 3), (11, .aload_n 0, 1), (12, .getfield 102, 3), (15, .iload_n 3, 1), (16, .iaload, 1), (17, .ifCond .le 35, 3), (20, .aload_n 0, 1), (21, .aload_n 0, 1), (22, .getfield 37, 3), (25, .iload_n 3, 1), (26, .iaload, 1), (27, .aload_n 0, 1), (28, .getfield 102, 3), (31, .iload_n 3, 1), (32, .iaload, 1), (33, .invokevirtual 352, 3), (36, .aload_n 0, 1), (37, .aload_n 0, 1), (38, .getfield 37, 3), (41, .iload_n 1, 1), (42, .iaload, 1), (43, .iload_n 2, 1), (44, .invokevirtual 352, 3), (47, .if_icmp .ne 5, 3), (50, .iconst 1, 1), (51, .ireturn, 1), (52, .iinc 3 1, 3), (55, .goto (-53), 3), (58, .iconst 0, 1), (59, .ireturn, 1)]
def m_Rf_isTwice : gp_M := (⟨"GoldPlateModel", "isTwice", "(II)Z"⟩, prog_14_method_48_code, 4, (some .boolean), 0, 0, 12, 2, cd_Rf_isTwice)
def cd_Rf_goesOn : List (Nat × Instr × Nat) := [(0, .iload_n 3, 1), (1, .ifCond .eq 24, 3), (4, .iload_n 2, 1), (5, .aload_n 0, 1), (6, .getfield 355, 3), (9, .if_icmp .gt 32, 3), (12, .aload_n 0, 1), (13, .getfield 358, 3), (16, .sipush 2000, 3), (19, .if_icmp .le 23, 3), (22, .goto 19, 3), (25, .aload_n 0, 1), (26, .getfield 361, 3), (29, .iconst (-1), 1), (30, .if_icmp .eq 12, 3), (33, .iload_n 2, 1), (34, .aload_n 0, 1), (35, .getfield 361, 3), (38, .if_icmp .lt 4, 3), (41, .return_, 1), (42, .iload_n 1, 1), (43, .aload_n 0, 1), (44, .getfield 182, 3), (47, .if_icmp .ne 56, 3), (50, .aload_n 0, 1), (51, .dup, 1), (52, .getfield 358, 3), (55, .iconst 1, 1), (56, .iadd, 1), (57, .putfield 358, 3), (60, .iload_n 3, 1), (61, .ifCond .eq 4, 3), (64, .return_, 1), (65, .aload_n 0, 1), (66, .iload_n 2, 1), (67, .putfield 361, 3), (70, .iconst 0, 1), (71, .istore 4, 2), (73, .iload 4, 2), (75, .aload_n 0, 1), (76, .getfield 182, 3), (79, .if_icmp .ge 23, 3), (82, .aload_n 0, 1), (83, .getfield 105, 3), (86, .iload 4, 2), (88, .aload_n 0, 1), (89, .getfield 102, 3), (92, .iload 4, 2), (94, .iaload, 1), (95, .iastore, 1), (96, .iinc 4 1, 3), (99, .goto (-26), 3), (102, .return_, 1), (103, .iconst 0, 1), (104, .istore 4, 2), (106, .iload 4, 2), (108, .iconst 4, 1), (109, .if_icmp .ge 70, 3), (112, .aload_n 0, 1), (113, .iload_n 1, 1), (114, .iload 4, 2), (116, .invokevirtual 364, 3), (119, .ifCond .ne 6, 3), (122, .goto 51, 3), (125, .aload_n 0, 1), (126, .getfield 102, 3), (129, .iload_n 1, 1), (130, .iload 4, 2), (132, .iastore, 1), (133, .aload_n 0, 1), (134, .iload_n 1, 1), (135, .iconst 1, 1), (136, .iadd, 1), (137, .iload_n 2, 1), (138, .aload_n 0, 1), (139, .getfield 99, 3), (142, .bipush 8, 2), (144, .iload_n 1, 1), (145, .imul, 1), (146, .iconst 2, 1), (147, .iload 4, 2), (149, .imul, 1), (150, .iadd, 1), (151, .aload_n 0, 1), (152, .iload_n 1, 1), (153, .iload 4, 2), (155, .invokevirtual 367, 3), (158, .ifCond .eq 7, 3), (161, .iconst 1, 1), (162, .goto 4, 3), (165, .iconst 0, 1), (166, .iadd, 1), (167, .iaload, 1), (168, .iadd, 1), (169, .iload_n 3, 1), (170, .invokevirtual 370, 3), (173, .iinc 4 1, 3), (176, .goto (-70), 3), (179, .return_, 1)]
def m_Rf_goesOn : gp_M := (⟨"GoldPlateModel", "goesOn", "(IIZ)V"⟩, prog_14_method_49_code, 5, none, 0, 0, 12, 3, cd_Rf_goesOn)
def cd_Rf_readings : List (Nat × Instr × Nat) := [(0, .aload_n 0, 1), (1, .iload_n 1, 1), (2, .invokevirtual 324, 3), (5, .ifCond .eq 23, 3), (8, .iload_n 2, 1), (9, .iconst 0, 1), (10, .sipush 9999, 3), (13, .invokestatic 156, 3), (16, .ifCond .eq 12, 3), (19, .aload_n 0, 1), (20, .getfield 182, 3), (23, .bipush 10, 2), (25, .if_icmp .le 5, 3), (28, .iconst (-1), 1), (29, .ireturn, 1), (30, .aload_n 0, 1), (31, .iload_n 1, 1), (32, .invokevirtual 374, 3), (35, .aload_n 0, 1), (36, .iload_n 2, 1), (37, .putfield 355, 3), (40, .aload_n 0, 1), (41, .iconst 0, 1), (42, .putfield 358, 3), (45, .aload_n 0, 1), (46, .iconst 0, 1), (47, .iconst 0, 1), (48, .iconst 1, 1), (49, .invokevirtual 370, 3), (52, .aload_n 0, 1), (53, .getfield 358, 3), (56, .sipush 2000, 3), (59, .if_icmp .le 8, 3), (62, .bipush (-2), 2), (64, .goto 7, 3), (67, .aload_n 0, 1), (68, .getfield 358, 3), (71, .ireturn, 1)]
def m_Rf_readings : gp_M := (⟨"GoldPlateModel", "readings", "(II)I"⟩, prog_14_method_50_code, 3, (some .int), 0, 0, 12, 2, cd_Rf_readings)
def cd_Rf_seeks : List (Nat × Instr × Nat) := [(0, .aload_n 0, 1), (1, .iload_n 1, 1), (2, .invokevirtual 374, 3), (5, .aload_n 0, 1), (6, .iconst (-1), 1), (7, .putfield 361, 3), (10, .aload_n 0, 1), (11, .iconst 0, 1), (12, .iconst 0, 1), (13, .iconst 0, 1), (14, .invokevirtual 370, 3), (17, .return_, 1)]
def m_Rf_seeks : gp_M := (⟨"GoldPlateModel", "seeks", "(I)V"⟩, prog_14_method_51_code, 2, none, 0, 0, 12, 1, cd_Rf_seeks)
def cd_Rf_allNeeds : List (Nat × Instr × Nat) := [(0, .iconst 1, 1), (1, .iload_n 1, 1), (2, .ishl, 1), (3, .istore_n 2, 1), (4, .iload_n 1, 1), (5, .istore_n 3, 1), (6, .iload_n 3, 1), (7, .ifCond .lt 31, 3), (10, .iload_n 2, 1), (11, .iload_n 2, 1), (12, .iload_n 3, 1), (13, .ishr, 1), (14, .iconst 1, 1), (15, .iand, 1), (16, .iconst 1, 1), (17, .if_icmp .ne 12, 3), (20, .aload_n 0, 1), (21, .getfield 25, 3), (24, .iload_n 3, 1), (25, .iaload, 1), (26, .goto 4, 3), (29, .iconst 0, 1), (30, .ior, 1), (31, .istore_n 2, 1), (32, .iinc 3 (-1), 3), (35, .goto (-29), 3), (38, .iload_n 2, 1), (39, .ireturn, 1)]
def m_Rf_allNeeds : gp_M := (⟨"GoldPlateModel", "allNeeds", "(I)I"⟩, prog_14_method_52_code, 4, (some .int), 0, 0, 12, 1, cd_Rf_allNeeds)
def cd_Rf_cheapest : List (Nat × Instr × Nat) := [(0, .aload_n 0, 1), (1, .iload_n 1, 1), (2, .invokevirtual 324, 3), (5, .ifCond .eq 12, 3), (8, .aload_n 0, 1), (9, .getfield 182, 3), (12, .bipush 10, 2), (14, .if_icmp .le 5, 3), (17, .iconst (-1), 1), (18, .ireturn, 1), (19, .aload_n 0, 1), (20, .iload_n 1, 1), (21, .invokevirtual 378, 3), (24, .iconst 0, 1), (25, .istore_n 3, 1), (26, .iload_n 3, 1), (27, .aload_n 0, 1), (28, .getfield 182, 3), (31, .if_icmp .ge 19, 3), (34, .aload_n 0, 1), (35, .getfield 105, 3), (38, .iload_n 3, 1), (39, .iaload, 1), (40, .iconst 1, 1), (41, .if_icmp .ne 9, 3), (44, .iinc 3 1, 3), (47, .goto (-21), 3), (50, .iload_n 2, 1), (51, .ifCond .ne 8, 3), (54, .aload_n 0, 1), (55, .getfield 361, 3), (58, .ireturn, 1), (59, .iload_n 2, 1), (60, .iconst 1, 1), (61, .if_icmp .ne 22, 3), (64, .iload_n 3, 1), (65, .aload_n 0, 1), (66, .getfield 182, 3), (69, .if_icmp .ne 7, 3), (72, .iconst (-1), 1), (73, .goto 9, 3), (76, .aload_n 0, 1), (77, .getfield 37, 3), (80, .iload_n 3, 1), (81, .iaload, 1), (82, .ireturn, 1), (83, .iload_n 2, 1), (84, .bipush 10, 2), (86, .bipush 9, 2), (88, .aload_n 0, 1), (89, .getfield 182, 3), (92, .iadd, 1), (93, .invokestatic 156, 3), (96, .ifCond .eq 13, 3), (99, .aload_n 0, 1), (100, .getfield 105, 3), (103, .iload_n 2, 1), (104, .bipush 10, 2), (106, .isub, 1), (107, .iaload, 1), (108, .ireturn, 1), (109, .iload_n 2, 1), (110, .iconst 2, 1), (111, .if_icmp .eq 5, 3), (114, .iconst (-1), 1), (115, .ireturn, 1), (116, .iconst 0, 1), (117, .istore 4, 2), (119, .iload_n 3, 1), (120, .iconst 1, 1), (121, .iadd, 1), (122, .istore 5, 2), (124, .iload 5, 2), (126, .aload_n 0, 1), (127, .getfield 182, 3), (130, .if_icmp .ge 54, 3), (133, .iload 4, 2), (135, .aload_n 0, 1), (136, .aload_n 0, 1), (137, .getfield 37, 3), (140, .iload 5, 2), (142, .iaload, 1), (143, .invokevirtual 381, 3), (146, .aload_n 0, 1), (147, .getfield 37, 3), (150, .iload_n 3, 1), (151, .iaload, 1), (152, .ishr, 1), (153, .iconst 1, 1), (154, .iand, 1), (155, .iconst 1, 1), (156, .if_icmp .ne 18, 3), (159, .aload_n 0, 1), (160, .getfield 105, 3), (163, .iload 5, 2), (165, .iaload, 1), (166, .iconst 1, 1), (167, .if_icmp .eq 7, 3), (170, .iconst 1, 1), (171, .goto 4, 3), (174, .iconst 0, 1), (175, .iadd, 1), (176, .istore 4, 2), (178, .iinc 5 1, 3), (181, .goto (-57), 3), (184, .iload 4, 2), (186, .ireturn, 1)]
def m_Rf_cheapest : gp_M := (⟨"GoldPlateModel", "cheapest", "(II)I"⟩, prog_14_method_53_code, 6, (some .int), 0, 0, 12, 2, cd_Rf_cheapest)
def cd_Rf_isAlone : List (Nat × Instr × Nat) := [(0, .aload_n 0, 1), (1, .iload_n 2, 1), (2, .invokevirtual 381, 3), (5, .istore 4, 2), (7, .iconst 0, 1), (8, .istore 5, 2), (10, .iload 5, 2), (12, .iload_n 2, 1), (13, .if_icmp .gt 52, 3), (16, .iload 4, 2), (18, .iload 5, 2), (20, .ishr, 1), (21, .iconst 1, 1), (22, .iand, 1), (23, .iconst 1, 1), (24, .if_icmp .ne 35, 3), (27, .aload_n 0, 1), (28, .iload_n 1, 1), (29, .iload 5, 2), (31, .iload_n 3, 1), (32, .invokevirtual 349, 3), (35, .ifCond .eq 22, 3), (38, .aload_n 0, 1), (39, .getfield 28, 3), (42, .iload 5, 2), (44, .iaload, 1), (45, .aload_n 0, 1), (46, .getfield 50, 3), (49, .iload_n 1, 1), (50, .iaload, 1), (51, .iconst (-1), 1), (52, .ixor, 1), (53, .iand, 1), (54, .ifCond .eq 5, 3), (57, .iconst 0, 1), (58, .ireturn, 1), (59, .iinc 5 1, 3), (62, .goto (-52), 3), (65, .iconst 1, 1), (66, .ireturn, 1)]
def m_Rf_isAlone : gp_M := (⟨"GoldPlateModel", "isAlone", "(III)Z"⟩, prog_14_method_54_code, 6, (some .boolean), 0, 0, 12, 3, cd_Rf_isAlone)
def cd_Rf_alone : List (Nat × Instr × Nat) := [(0, .aload_n 0, 1), (1, .iload_n 1, 1), (2, .invokevirtual 324, 3), (5, .ifCond .eq 32, 3), (8, .aload_n 0, 1), (9, .iload_n 2, 1), (10, .invokevirtual 160, 3), (13, .ifCond .eq 24, 3), (16, .aload_n 0, 1), (17, .iload_n 1, 1), (18, .iload_n 2, 1), (19, .aload_n 0, 1), (20, .getfield 164, 3), (23, .invokevirtual 384, 3), (26, .ifCond .eq 7, 3), (29, .iconst 1, 1), (30, .goto 8, 3), (33, .iconst 0, 1), (34, .goto 4, 3), (37, .iconst (-1), 1), (38, .ireturn, 1)]
def m_Rf_alone : gp_M := (⟨"GoldPlateModel", "alone", "(II)I"⟩, prog_14_method_55_code, 3, (some .int), 0, 0, 12, 2, cd_Rf_alone)
def cd_Rf_bits : List (Nat × Instr × Nat) := [(0, .iload_n 2, 1), (1, .ifCond .ne 8, 3), (4, .aload_n 0, 1), (5, .iconst 0, 1), (6, .putfield 387, 3), (9, .iload_n 2, 1), (10, .iconst 0, 1), (11, .bipush 32, 2), (13, .invokestatic 156, 3), (16, .ifCond .eq 15, 3), (19, .aload_n 0, 1), (20, .getfield 387, 3), (23, .iload_n 2, 1), (24, .iadd, 1), (25, .sipush 400, 3), (28, .if_icmp .le 5, 3), (31, .iconst (-1), 1), (32, .ireturn, 1), (33, .iload_n 2, 1), (34, .iconst 1, 1), (35, .isub, 1), (36, .istore_n 3, 1), (37, .iload_n 3, 1), (38, .ifCond .lt 33, 3), (41, .aload_n 0, 1), (42, .getfield 108, 3), (45, .aload_n 0, 1), (46, .getfield 387, 3), (49, .iload_n 1, 1), (50, .iload_n 3, 1), (51, .ishr, 1), (52, .iconst 1, 1), (53, .iand, 1), (54, .iastore, 1), (55, .aload_n 0, 1), (56, .dup, 1), (57, .getfield 387, 3), (60, .iconst 1, 1), (61, .iadd, 1), (62, .putfield 387, 3), (65, .iinc 3 (-1), 3), (68, .goto (-31), 3), (71, .aload_n 0, 1), (72, .getfield 387, 3), (75, .ireturn, 1)]
def m_Rf_bits : gp_M := (⟨"GoldPlateModel", "bits", "(II)I"⟩, prog_14_method_56_code, 4, (some .int), 0, 0, 12, 2, cd_Rf_bits)
def cd_Rf_grid : List (Nat × Instr × Nat) := [(0, .iload_n 2, 1), (1, .ifCond .ne 8, 3), (4, .aload_n 0, 1), (5, .iconst 0, 1), (6, .putfield 390, 3), (9, .iload_n 2, 1), (10, .iconst 0, 1), (11, .bipush 32, 2), (13, .invokestatic 156, 3), (16, .ifCond .eq 15, 3), (19, .aload_n 0, 1), (20, .getfield 390, 3), (23, .iload_n 2, 1), (24, .iadd, 1), (25, .sipush 400, 3), (28, .if_icmp .le 5, 3), (31, .iconst (-1), 1), (32, .ireturn, 1), (33, .iload_n 2, 1), (34, .iconst 1, 1), (35, .isub, 1), (36, .istore_n 3, 1), (37, .iload_n 3, 1), (38, .ifCond .lt 33, 3), (41, .aload_n 0, 1), (42, .getfield 111, 3), (45, .aload_n 0, 1), (46, .getfield 390, 3), (49, .iload_n 1, 1), (50, .iload_n 3, 1), (51, .ishr, 1), (52, .iconst 1, 1), (53, .iand, 1), (54, .iastore, 1), (55, .aload_n 0, 1), (56, .dup, 1), (57, .getfield 390, 3), (60, .iconst 1, 1), (61, .iadd, 1), (62, .putfield 390, 3), (65, .iinc 3 (-1), 3), (68, .goto (-31), 3), (71, .aload_n 0, 1), (72, .getfield 390, 3), (75, .ireturn, 1)]
def m_Rf_grid : gp_M := (⟨"GoldPlateModel", "grid", "(II)I"⟩, prog_14_method_57_code, 4, (some .int), 0, 0, 12, 2, cd_Rf_grid)
def cd_Rf_isWidth : List (Nat × Instr × Nat) := [(0, .iload_n 1, 1), (1, .iconst 1, 1), (2, .if_icmp .le 24, 3), (5, .iload_n 1, 1), (6, .aload_n 0, 1), (7, .getfield 387, 3), (10, .if_icmp .ge 16, 3), (13, .aload_n 0, 1), (14, .getfield 387, 3), (17, .iload_n 1, 1), (18, .irem, 1), (19, .ifCond .ne 7, 3), (22, .iconst 1, 1), (23, .goto 4, 3), (26, .iconst 0, 1), (27, .ireturn, 1)]
def m_Rf_isWidth : gp_M := (⟨"GoldPlateModel", "isWidth", "(I)Z"⟩, prog_14_method_58_code, 2, (some .boolean), 0, 0, 12, 1, cd_Rf_isWidth)
def cd_Rf_laidAt : List (Nat × Instr × Nat) := [(0, .aload_n 0, 1), (1, .getfield 108, 3), (4, .iload_n 2, 1), (5, .iload_n 3, 1), (6, .imul, 1), (7, .aload_n 0, 1), (8, .getfield 53, 3), (11, .iload_n 1, 1), (12, .iaload, 1), (13, .ifCond .ne 8, 3), (16, .iload 4, 2), (18, .goto 9, 3), (21, .iload_n 2, 1), (22, .iconst 1, 1), (23, .isub, 1), (24, .iload 4, 2), (26, .isub, 1), (27, .iadd, 1), (28, .iaload, 1), (29, .ireturn, 1)]
def m_Rf_laidAt : gp_M := (⟨"GoldPlateModel", "laidAt", "(IIII)I"⟩, prog_14_method_59_code, 5, (some .int), 0, 0, 12, 4, cd_Rf_laidAt)
def cd_Rf_isPrime : List (Nat × Instr × Nat) := [(0, .iconst 2, 1), (1, .istore_n 1, 1), (2, .iload_n 1, 1), (3, .iload_n 0, 1), (4, .if_icmp .ge 17, 3), (7, .iload_n 0, 1), (8, .iload_n 1, 1), (9, .irem, 1), (10, .ifCond .ne 5, 3), (13, .iconst 0, 1), (14, .ireturn, 1), (15, .iinc 1 1, 3), (18, .goto (-16), 3), (21, .iload_n 0, 1), (22, .iconst 1, 1), (23, .if_icmp .le 7, 3), (26, .iconst 1, 1), (27, .goto 4, 3), (30, .iconst 0, 1), (31, .ireturn, 1)]
def m_Rf_isPrime : gp_M := (⟨"GoldPlateModel", "isPrime", "(I)Z"⟩, prog_14_method_60_code, 2, (some .boolean), 0, 0, 12, 1, cd_Rf_isPrime)
def cd_Rf_edges : List (Nat × Instr × Nat) := [(0, .aload_n 0, 1), (1, .getfield 387, 3), (4, .iload_n 2, 1), (5, .idiv, 1), (6, .istore_n 3, 1), (7, .iconst 0, 1), (8, .istore 4, 2), (10, .iconst 0, 1), (11, .istore 5, 2), (13, .iload 5, 2), (15, .iload_n 3, 1), (16, .if_icmp .ge 104, 3), (19, .iconst 0, 1), (20, .istore 6, 2), (22, .iload 6, 2), (24, .iload_n 2, 1), (25, .if_icmp .ge 89, 3), (28, .iload 4, 2), (30, .iload 6, 2), (32, .ifCond .le 32, 3), (35, .aload_n 0, 1), (36, .iload_n 1, 1), (37, .iload_n 2, 1), (38, .iload 5, 2), (40, .iload 6, 2), (42, .invokevirtual 393, 3), (45, .aload_n 0, 1), (46, .iload_n 1, 1), (47, .iload_n 2, 1), (48, .iload 5, 2), (50, .iload 6, 2), (52, .iconst 1, 1), (53, .isub, 1), (54, .invokevirtual 393, 3), (57, .if_icmp .eq 7, 3), (60, .iconst 1, 1), (61, .goto 4, 3), (64, .iconst 0, 1), (65, .iadd, 1), (66, .istore 4, 2), (68, .iload 4, 2), (70, .iload 5, 2), (72, .ifCond .le 32, 3), (75, .aload_n 0, 1), (76, .iload_n 1, 1), (77, .iload_n 2, 1), (78, .iload 5, 2), (80, .iload 6, 2), (82, .invokevirtual 393, 3), (85, .aload_n 0, 1), (86, .iload_n 1, 1), (87, .iload_n 2, 1), (88, .iload 5, 2), (90, .iconst 1, 1), (91, .isub, 1), (92, .iload 6, 2), (94, .invokevirtual 393, 3), (97, .if_icmp .eq 7, 3), (100, .iconst 1, 1), (101, .goto 4, 3), (104, .iconst 0, 1), (105, .iadd, 1), (106, .istore 4, 2), (108, .iinc 6 1, 3), (111, .goto (-89), 3), (114, .iinc 5 1, 3), (117, .goto (-104), 3), (120, .iload 4, 2), (122, .ireturn, 1)]
def m_Rf_edges : gp_M := (⟨"GoldPlateModel", "edges", "(II)I"⟩, prog_14_method_61_code, 7, (some .int), 0, 0, 12, 2, cd_Rf_edges)
def cd_Rf_triedAs : List (Nat × Instr × Nat) := [(0, .aload_n 0, 1), (1, .getfield 387, 3), (4, .iload_n 2, 1), (5, .idiv, 1), (6, .istore_n 3, 1), (7, .iconst 0, 1), (8, .istore 4, 2), (10, .iload 4, 2), (12, .bipush 14, 2), (14, .if_icmp .ge 17, 3), (17, .aload_n 0, 1), (18, .getfield 86, 3), (21, .iload 4, 2), (23, .iconst 0, 1), (24, .iastore, 1), (25, .iinc 4 1, 3), (28, .goto (-18), 3), (31, .aload_n 0, 1), (32, .getfield 86, 3), (35, .bipush 9, 2), (37, .iload_n 2, 1), (38, .iastore, 1), (39, .aload_n 0, 1), (40, .getfield 86, 3), (43, .bipush 10, 2), (45, .iload_n 3, 1), (46, .iastore, 1), (47, .aload_n 0, 1), (48, .getfield 86, 3), (51, .bipush 11, 2), (53, .iload_n 2, 1), (54, .invokestatic 397, 3), (57, .ifCond .eq 14, 3), (60, .iload_n 3, 1), (61, .invokestatic 397, 3), (64, .ifCond .eq 7, 3), (67, .iconst 1, 1), (68, .goto 4, 3), (71, .iconst 0, 1), (72, .iastore, 1), (73, .aload_n 0, 1), (74, .getfield 86, 3), (77, .bipush 12, 2), (79, .aload_n 0, 1), (80, .iload_n 1, 1), (81, .iload_n 2, 1), (82, .invokevirtual 400, 3), (85, .iastore, 1), (86, .aload_n 0, 1), (87, .getfield 86, 3), (90, .bipush 13, 2), (92, .iload_n 2, 1), (93, .iload_n 3, 1), (94, .if_icmp .le 9, 3), (97, .iload_n 2, 1), (98, .iload_n 3, 1), (99, .isub, 1), (100, .goto 6, 3), (103, .iload_n 3, 1), (104, .iload_n 2, 1), (105, .isub, 1), (106, .iastore, 1), (107, .aload_n 0, 1), (108, .getfield 93, 3), (111, .iload_n 1, 1), (112, .baload, 1), (113, .ifCond .eq 23, 3), (116, .aload_n 0, 1), (117, .iload_n 1, 1), (118, .aload_n 0, 1), (119, .getfield 62, 3), (122, .iload_n 1, 1), (123, .iaload, 1), (124, .aload_n 0, 1), (125, .getfield 65, 3), (128, .iload_n 1, 1), (129, .iaload, 1), (130, .invokevirtual 340, 3), (133, .goto 4, 3), (136, .iconst 0, 1), (137, .ireturn, 1)]
def m_Rf_triedAs : gp_M := (⟨"GoldPlateModel", "triedAs", "(II)I"⟩, prog_14_method_62_code, 5, (some .int), 0, 0, 12, 2, cd_Rf_triedAs)
def cd_Rf_findsWidths : List (Nat × Instr × Nat) := [(0, .aload_n 0, 1), (1, .iconst 0, 1), (2, .putfield 402, 3), (5, .iconst 2, 1), (6, .istore_n 2, 1), (7, .iload_n 2, 1), (8, .aload_n 0, 1), (9, .getfield 387, 3), (12, .if_icmp .ge 115, 3), (15, .aload_n 0, 1), (16, .iload_n 2, 1), (17, .invokevirtual 405, 3), (20, .ifCond .ne 6, 3), (23, .goto 98, 3), (26, .aload_n 0, 1), (27, .iload_n 1, 1), (28, .iload_n 2, 1), (29, .invokevirtual 408, 3), (32, .istore_n 3, 1), (33, .aload_n 0, 1), (34, .getfield 402, 3), (37, .istore 4, 2), (39, .iload 4, 2), (41, .ifCond .le 54, 3), (44, .aload_n 0, 1), (45, .getfield 117, 3), (48, .iload 4, 2), (50, .iconst 1, 1), (51, .isub, 1), (52, .iaload, 1), (53, .iload_n 3, 1), (54, .if_icmp .le 41, 3), (57, .aload_n 0, 1), (58, .getfield 117, 3), (61, .iload 4, 2), (63, .aload_n 0, 1), (64, .getfield 117, 3), (67, .iload 4, 2), (69, .iconst 1, 1), (70, .isub, 1), (71, .iaload, 1), (72, .iastore, 1), (73, .aload_n 0, 1), (74, .getfield 114, 3), (77, .iload 4, 2), (79, .aload_n 0, 1), (80, .getfield 114, 3), (83, .iload 4, 2), (85, .iconst 1, 1), (86, .isub, 1), (87, .iaload, 1), (88, .iastore, 1), (89, .iinc 4 (-1), 3), (92, .goto (-53), 3), (95, .aload_n 0, 1), (96, .getfield 117, 3), (99, .iload 4, 2), (101, .iload_n 3, 1), (102, .iastore, 1), (103, .aload_n 0, 1), (104, .getfield 114, 3), (107, .iload 4, 2), (109, .iload_n 2, 1), (110, .iastore, 1), (111, .aload_n 0, 1), (112, .dup, 1), (113, .getfield 402, 3), (116, .iconst 1, 1), (117, .iadd, 1), (118, .putfield 402, 3), (121, .iinc 2 1, 3), (124, .goto (-117), 3), (127, .return_, 1)]
def m_Rf_findsWidths : gp_M := (⟨"GoldPlateModel", "findsWidths", "(I)V"⟩, prog_14_method_63_code, 5, none, 0, 0, 12, 1, cd_Rf_findsWidths)
def cd_Rf_widths : List (Nat × Instr × Nat) := [(0, .aload_n 0, 1), (1, .iload_n 1, 1), (2, .invokevirtual 324, 3), (5, .ifCond .eq 7, 3), (8, .iload_n 2, 1), (9, .ifCond .ge 5, 3), (12, .iconst (-1), 1), (13, .ireturn, 1), (14, .aload_n 0, 1), (15, .iload_n 1, 1), (16, .invokevirtual 411, 3), (19, .iload_n 2, 1), (20, .ifCond .ne 10, 3), (23, .aload_n 0, 1), (24, .getfield 402, 3), (27, .goto 23, 3), (30, .iload_n 2, 1), (31, .aload_n 0, 1), (32, .getfield 402, 3), (35, .if_icmp .gt 14, 3), (38, .aload_n 0, 1), (39, .getfield 114, 3), (42, .iload_n 2, 1), (43, .iconst 1, 1), (44, .isub, 1), (45, .iaload, 1), (46, .goto 4, 3), (49, .iconst (-1), 1), (50, .ireturn, 1)]
def m_Rf_widths : gp_M := (⟨"GoldPlateModel", "widths", "(II)I"⟩, prog_14_method_64_code, 3, (some .int), 0, 0, 12, 2, cd_Rf_widths)
def cd_Rf_laid : List (Nat × Instr × Nat) := [(0, .aload_n 0, 1), (1, .iload_n 1, 1), (2, .invokevirtual 324, 3), (5, .ifCond .eq 31, 3), (8, .aload_n 0, 1), (9, .iload_n 2, 1), (10, .invokevirtual 405, 3), (13, .ifCond .eq 23, 3), (16, .aload_n 0, 1), (17, .getfield 390, 3), (20, .aload_n 0, 1), (21, .getfield 387, 3), (24, .if_icmp .ne 12, 3), (27, .iload_n 3, 1), (28, .iconst 0, 1), (29, .iconst 1, 1), (30, .invokestatic 156, 3), (33, .ifCond .ne 5, 3), (36, .iconst (-1), 1), (37, .ireturn, 1), (38, .aload_n 0, 1), (39, .getfield 387, 3), (42, .iload_n 2, 1), (43, .idiv, 1), (44, .istore 4, 2), (46, .iconst 0, 1), (47, .istore 5, 2), (49, .iconst 1, 1), (50, .istore 6, 2), (52, .iconst 0, 1), (53, .istore 7, 2), (55, .iload 7, 2), (57, .iload 4, 2), (59, .if_icmp .ge 97, 3), (62, .iconst 0, 1), (63, .istore 8, 2), (65, .iload 8, 2), (67, .iload_n 2, 1), (68, .if_icmp .ge 82, 3), (71, .iload 5, 2), (73, .aload_n 0, 1), (74, .iload_n 1, 1), (75, .iload_n 2, 1), (76, .iload 7, 2), (78, .iload 8, 2), (80, .invokevirtual 393, 3), (83, .aload_n 0, 1), (84, .getfield 111, 3), (87, .iload_n 2, 1), (88, .iload 7, 2), (90, .imul, 1), (91, .iload 8, 2), (93, .iadd, 1), (94, .iaload, 1), (95, .if_icmp .ne 7, 3), (98, .iconst 1, 1), (99, .goto 4, 3), (102, .iconst 0, 1), (103, .iadd, 1), (104, .istore 5, 2), (106, .iload 6, 2), (108, .ifCond .eq 33, 3), (111, .aload_n 0, 1), (112, .iload_n 1, 1), (113, .iload_n 2, 1), (114, .iload 7, 2), (116, .iload 8, 2), (118, .invokevirtual 393, 3), (121, .aload_n 0, 1), (122, .getfield 111, 3), (125, .iload 4, 2), (127, .iload 8, 2), (129, .imul, 1), (130, .iload 7, 2), (132, .iadd, 1), (133, .iaload, 1), (134, .if_icmp .ne 7, 3), (137, .iconst 1, 1), (138, .goto 4, 3), (141, .iconst 0, 1), (142, .istore 6, 2), (144, .iinc 8 1, 3), (147, .goto (-82), 3), (150, .iinc 7 1, 3), (153, .goto (-98), 3), (156, .iload_n 3, 1), (157, .ifCond .ne 8, 3), (160, .iload 5, 2), (162, .goto 13, 3), (165, .iload 6, 2), (167, .ifCond .eq 7, 3), (170, .iconst 1, 1), (171, .goto 4, 3), (174, .iconst 0, 1), (175, .ireturn, 1)]
def m_Rf_laid : gp_M := (⟨"GoldPlateModel", "laid", "(III)I"⟩, prog_14_method_65_code, 9, (some .int), 0, 0, 12, 3, cd_Rf_laid)
def cd_Rf_isBeat : List (Nat × Instr × Nat) := [(0, .iload_n 1, 1), (1, .iconst 0, 1), (2, .aload_n 0, 1), (3, .getfield 414, 3), (6, .iconst 1, 1), (7, .isub, 1), (8, .invokestatic 156, 3), (11, .ireturn, 1)]
def m_Rf_isBeat : gp_M := (⟨"GoldPlateModel", "isBeat", "(I)Z"⟩, prog_14_method_66_code, 2, (some .boolean), 0, 0, 12, 1, cd_Rf_isBeat)
def cd_Rf_beat : List (Nat × Instr × Nat) := [(0, .iload_n 1, 1), (1, .iconst 1, 1), (2, .ldc_w 417, 3), (5, .invokestatic 156, 3), (8, .ifCond .eq 44, 3), (11, .iload_n 2, 1), (12, .iconst 0, 1), (13, .sipush 9999, 3), (16, .invokestatic 156, 3), (19, .ifCond .eq 33, 3), (22, .iload_n 3, 1), (23, .iconst 0, 1), (24, .bipush 39, 2), (26, .invokestatic 156, 3), (29, .ifCond .eq 23, 3), (32, .iload 4, 2), (34, .iconst 0, 1), (35, .bipush 39, 2), (37, .invokestatic 156, 3), (40, .ifCond .eq 12, 3), (43, .aload_n 0, 1), (44, .getfield 414, 3), (47, .bipush 14, 2), (49, .if_icmp .ne 5, 3), (52, .iconst (-1), 1), (53, .ireturn, 1), (54, .aload_n 0, 1), (55, .getfield 120, 3), (58, .aload_n 0, 1), (59, .getfield 414, 3), (62, .iload_n 1, 1), (63, .iastore, 1), (64, .aload_n 0, 1), (65, .getfield 123, 3), (68, .aload_n 0, 1), (69, .getfield 414, 3), (72, .iload_n 2, 1), (73, .iastore, 1), (74, .aload_n 0, 1), (75, .getfield 126, 3), (78, .aload_n 0, 1), (79, .getfield 414, 3), (82, .iload_n 3, 1), (83, .iastore, 1), (84, .aload_n 0, 1), (85, .getfield 129, 3), (88, .aload_n 0, 1), (89, .getfield 414, 3), (92, .iload 4, 2), (94, .iastore, 1), (95, .aload_n 0, 1), (96, .getfield 132, 3), (99, .aload_n 0, 1), (100, .getfield 414, 3), (103, .iconst (-1), 1), (104, .iastore, 1), (105, .aload_n 0, 1), (106, .dup, 1), (107, .getfield 414, 3), (110, .iconst 1, 1), (111, .iadd, 1), (112, .putfield 414, 3), (115, .aload_n 0, 1), (116, .getfield 414, 3), (119, .iconst 1, 1), (120, .isub, 1), (121, .ireturn, 1)]
def m_Rf_beat : gp_M := (⟨"GoldPlateModel", "beat", "(IIII)I"⟩, prog_14_method_67_code, 5, (some .int), 0, 0, 12, 4, cd_Rf_beat)
def cd_Rf_found : List (Nat × Instr × Nat) := [(0, .aload_n 0, 1), (1, .iload_n 1, 1), (2, .invokevirtual 418, 3), (5, .ifCond .eq 30, 3), (8, .iload_n 2, 1), (9, .iconst (-1), 1), (10, .if_icmp .eq 27, 3), (13, .iload_n 2, 1), (14, .iconst 0, 1), (15, .ldc_w 421, 3), (18, .invokestatic 156, 3), (21, .ifCond .eq 14, 3), (24, .iload_n 3, 1), (25, .iload_n 2, 1), (26, .ldc_w 421, 3), (29, .invokestatic 156, 3), (32, .ifCond .ne 5, 3), (35, .iconst 0, 1), (36, .ireturn, 1), (37, .aload_n 0, 1), (38, .getfield 132, 3), (41, .iload_n 1, 1), (42, .iload_n 2, 1), (43, .iastore, 1), (44, .aload_n 0, 1), (45, .getfield 135, 3), (48, .iload_n 1, 1), (49, .iload_n 3, 1), (50, .iastore, 1), (51, .iconst 1, 1), (52, .ireturn, 1)]
def m_Rf_found : gp_M := (⟨"GoldPlateModel", "found", "(III)Z"⟩, prog_14_method_68_code, 4, (some .boolean), 0, 0, 12, 3, cd_Rf_found)
def cd_Rf_far : List (Nat × Instr × Nat) := [(0, .aload_n 0, 1), (1, .iload_n 1, 1), (2, .invokevirtual 418, 3), (5, .ifCond .eq 13, 3), (8, .iload_n 2, 1), (9, .iconst 0, 1), (10, .bipush 55, 2), (12, .invokestatic 156, 3), (15, .ifCond .ne 5, 3), (18, .iconst 0, 1), (19, .ireturn, 1), (20, .aload_n 0, 1), (21, .getfield 138, 3), (24, .iload_n 1, 1), (25, .iload_n 2, 1), (26, .iastore, 1), (27, .iconst 1, 1), (28, .ireturn, 1)]
def m_Rf_far : gp_M := (⟨"GoldPlateModel", "far", "(II)Z"⟩, prog_14_method_69_code, 3, (some .boolean), 0, 0, 12, 2, cd_Rf_far)
def cd_Rf_isThen : List (Nat × Instr × Nat) := [(0, .iconst 0, 1), (1, .istore_n 2, 1), (2, .iload_n 2, 1), (3, .aload_n 0, 1), (4, .getfield 414, 3), (7, .if_icmp .ge 79, 3), (10, .aload_n 0, 1), (11, .getfield 132, 3), (14, .iload_n 2, 1), (15, .iaload, 1), (16, .iconst (-1), 1), (17, .if_icmp .ne 6, 3), (20, .goto 60, 3), (23, .aload_n 0, 1), (24, .getfield 120, 3), (27, .iload_n 2, 1), (28, .iaload, 1), (29, .i2l, 1), (30, .aload_n 0, 1), (31, .getfield 120, 3), (34, .iload_n 2, 1), (35, .iaload, 1), (36, .i2l, 1), (37, .aload_n 0, 1), (38, .getfield 123, 3), (41, .iload_n 2, 1), (42, .iaload, 1), (43, .i2l, 1), (44, .lmul, 1), (45, .iload_n 1, 1), (46, .i2l, 1), (47, .lmul, 1), (48, .ldc2_w 422, 3), (51, .ldiv, 1), (52, .ladd, 1), (53, .lstore_n 3, 1), (54, .lload_n 3, 1), (55, .aload_n 0, 1), (56, .getfield 132, 3), (59, .iload_n 2, 1), (60, .iaload, 1), (61, .i2l, 1), (62, .lcmp, 1), (63, .ifCond .lt 15, 3), (66, .lload_n 3, 1), (67, .aload_n 0, 1), (68, .getfield 135, 3), (71, .iload_n 2, 1), (72, .iaload, 1), (73, .i2l, 1), (74, .lcmp, 1), (75, .ifCond .le 5, 3), (78, .iconst 0, 1), (79, .ireturn, 1), (80, .iinc 2 1, 3), (83, .goto (-81), 3), (86, .iconst 1, 1), (87, .ireturn, 1)]
def m_Rf_isThen : gp_M := (⟨"GoldPlateModel", "isThen", "(I)Z"⟩, prog_14_method_70_code, 5, (some .boolean), 0, 0, 12, 1, cd_Rf_isThen)
def cd_Rf_years : List (Nat × Instr × Nat) := [(0, .iload_n 1, 1), (1, .iconst 0, 1), (2, .iconst 2, 1), (3, .invokestatic 156, 3), (6, .ifCond .ne 5, 3), (9, .iconst (-1), 1), (10, .ireturn, 1), (11, .iconst 0, 1), (12, .istore_n 2, 1), (13, .iconst 0, 1), (14, .istore_n 3, 1), (15, .iload_n 3, 1), (16, .aload_n 0, 1), (17, .getfield 414, 3), (20, .if_icmp .ge 29, 3), (23, .iload_n 2, 1), (24, .ifCond .ne 13, 3), (27, .aload_n 0, 1), (28, .getfield 132, 3), (31, .iload_n 3, 1), (32, .iaload, 1), (33, .iconst (-1), 1), (34, .if_icmp .eq 7, 3), (37, .iconst 1, 1), (38, .goto 4, 3), (41, .iconst 0, 1), (42, .istore_n 2, 1), (43, .iinc 3 1, 3), (46, .goto (-31), 3), (49, .iconst 0, 1), (50, .istore_n 3, 1), (51, .iconst (-1), 1), (52, .istore 4, 2), (54, .iconst (-1), 1), (55, .istore 5, 2), (57, .iconst 0, 1), (58, .istore 6, 2), (60, .iload 6, 2), (62, .sipush 999, 3), (65, .if_icmp .gt 47, 3), (68, .iload_n 2, 1), (69, .ifCond .eq 43, 3), (72, .aload_n 0, 1), (73, .iload 6, 2), (75, .invokevirtual 424, 3), (78, .ifCond .ne 6, 3), (81, .goto 25, 3), (84, .iinc 3 1, 3), (87, .iload 4, 2), (89, .iconst (-1), 1), (90, .if_icmp .ne 8, 3), (93, .iload 6, 2), (95, .goto 5, 3), (98, .iload 4, 2), (100, .istore 4, 2), (102, .iload 6, 2), (104, .istore 5, 2), (106, .iinc 6 1, 3), (109, .goto (-49), 3), (112, .iload_n 1, 1), (113, .ifCond .ne 8, 3), (116, .iload 4, 2), (118, .goto 14, 3), (121, .iload_n 1, 1), (122, .iconst 1, 1), (123, .if_icmp .ne 8, 3), (126, .iload 5, 2), (128, .goto 4, 3), (131, .iload_n 3, 1), (132, .ireturn, 1)]
def m_Rf_years : gp_M := (⟨"GoldPlateModel", "years", "(I)I"⟩, prog_14_method_71_code, 7, (some .int), 0, 0, 12, 1, cd_Rf_years)
def cd_Rf_distance : List (Nat × Instr × Nat) := [(0, .iconst 0, 1), (1, .istore_n 2, 1), (2, .iload_n 2, 1), (3, .iconst 1, 1), (4, .iadd, 1), (5, .iload_n 2, 1), (6, .iconst 1, 1), (7, .iadd, 1), (8, .imul, 1), (9, .iload_n 0, 1), (10, .iload_n 0, 1), (11, .imul, 1), (12, .iload_n 1, 1), (13, .iload_n 1, 1), (14, .imul, 1), (15, .iadd, 1), (16, .if_icmp .gt 9, 3), (19, .iinc 2 1, 3), (22, .goto (-20), 3), (25, .iload_n 2, 1), (26, .ireturn, 1)]
def m_Rf_distance : gp_M := (⟨"GoldPlateModel", "distance", "(II)I"⟩, prog_14_method_72_code, 3, (some .int), 0, 0, 12, 2, cd_Rf_distance)
def cd_Rf_places : List (Nat × Instr × Nat) := [(0, .iload_n 1, 1), (1, .iconst 0, 1), (2, .bipush 55, 2), (4, .invokestatic 156, 3), (7, .ifCond .eq 12, 3), (10, .iload_n 2, 1), (11, .iconst 0, 1), (12, .iconst 1, 1), (13, .invokestatic 156, 3), (16, .ifCond .ne 5, 3), (19, .iconst (-1), 1), (20, .ireturn, 1), (21, .iconst 0, 1), (22, .istore_n 3, 1), (23, .iconst (-1), 1), (24, .istore 4, 2), (26, .iconst 0, 1), (27, .istore 5, 2), (29, .iload 5, 2), (31, .sipush 1600, 3), (34, .if_icmp .ge 126, 3), (37, .iconst 1, 1), (38, .istore 6, 2), (40, .iconst 0, 1), (41, .istore 7, 2), (43, .iload 7, 2), (45, .aload_n 0, 1), (46, .getfield 414, 3), (49, .if_icmp .ge 81, 3), (52, .iload 6, 2), (54, .ifCond .eq 76, 3), (57, .iload 5, 2), (59, .bipush 40, 2), (61, .irem, 1), (62, .aload_n 0, 1), (63, .getfield 126, 3), (66, .iload 7, 2), (68, .iaload, 1), (69, .isub, 1), (70, .iload 5, 2), (72, .bipush 40, 2), (74, .idiv, 1), (75, .aload_n 0, 1), (76, .getfield 129, 3), (79, .iload 7, 2), (81, .iaload, 1), (82, .isub, 1), (83, .invokestatic 427, 3), (86, .aload_n 0, 1), (87, .getfield 138, 3), (90, .iload 7, 2), (92, .iaload, 1), (93, .isub, 1), (94, .istore 8, 2), (96, .aload_n 0, 1), (97, .getfield 138, 3), (100, .iload 7, 2), (102, .iaload, 1), (103, .ifCond .eq 14, 3), (106, .iload 8, 2), (108, .iload_n 1, 1), (109, .ineg, 1), (110, .iload_n 1, 1), (111, .invokestatic 156, 3), (114, .ifCond .eq 7, 3), (117, .iconst 1, 1), (118, .goto 4, 3), (121, .iconst 0, 1), (122, .istore 6, 2), (124, .iinc 7 1, 3), (127, .goto (-84), 3), (130, .iload 6, 2), (132, .ifCond .ne 6, 3), (135, .goto 19, 3), (138, .iload_n 3, 1), (139, .ifCond .ne 8, 3), (142, .iload 5, 2), (144, .goto 5, 3), (147, .iload 4, 2), (149, .istore 4, 2), (151, .iinc 3 1, 3), (154, .iinc 5 1, 3), (157, .goto (-128), 3), (160, .iload_n 2, 1), (161, .ifCond .ne 7, 3), (164, .iload_n 3, 1), (165, .goto 5, 3), (168, .iload 4, 2), (170, .ireturn, 1)]
def m_Rf_places : gp_M := (⟨"GoldPlateModel", "places", "(II)I"⟩, prog_14_method_73_code, 9, (some .int), 0, 0, 12, 2, cd_Rf_places)
def cd_Rf_toldBy : List (Nat × Instr × Nat) := [(0, .iconst 0, 1), (1, .istore 4, 2), (3, .iconst 0, 1), (4, .istore 5, 2), (6, .iconst 0, 1), (7, .istore 6, 2), (9, .iload 6, 2), (11, .aload_n 0, 1), (12, .getfield 153, 3), (15, .if_icmp .ge 89, 3), (18, .iload_n 2, 1), (19, .iload 6, 2), (21, .ishr, 1), (22, .iconst 1, 1), (23, .iand, 1), (24, .ifCond .eq 74, 3), (27, .aload_n 0, 1), (28, .iload_n 1, 1), (29, .iload 6, 2), (31, .iload_n 3, 1), (32, .invokevirtual 349, 3), (35, .ifCond .eq 63, 3), (38, .aload_n 0, 1), (39, .getfield 25, 3), (42, .iload 6, 2), (44, .iaload, 1), (45, .iload 4, 2), (47, .iconst (-1), 1), (48, .ixor, 1), (49, .iand, 1), (50, .ifCond .ne 48, 3), (53, .aload_n 0, 1), (54, .getfield 28, 3), (57, .iload 6, 2), (59, .iaload, 1), (60, .aload_n 0, 1), (61, .getfield 50, 3), (64, .iload_n 1, 1), (65, .iaload, 1), (66, .iconst (-1), 1), (67, .ixor, 1), (68, .iand, 1), (69, .ifCond .eq 6, 3), (72, .goto 26, 3), (75, .iload 4, 2), (77, .iconst 1, 1), (78, .iload 6, 2), (80, .ishl, 1), (81, .ior, 1), (82, .istore 4, 2), (84, .iload 5, 2), (86, .iconst 1, 1), (87, .aload_n 0, 1), (88, .getfield 13, 3), (91, .iload 6, 2), (93, .iaload, 1), (94, .ishl, 1), (95, .ior, 1), (96, .istore 5, 2), (98, .iinc 6 1, 3), (101, .goto (-92), 3), (104, .iload 5, 2), (106, .ireturn, 1)]
def m_Rf_toldBy : gp_M := (⟨"GoldPlateModel", "toldBy", "(III)I"⟩, prog_14_method_74_code, 7, (some .int), 0, 0, 12, 3, cd_Rf_toldBy)
def cd_Rf_told : List (Nat × Instr × Nat) := [(0, .aload_n 0, 1), (1, .iload_n 1, 1), (2, .invokevirtual 324, 3), (5, .ifCond .eq 27, 3), (8, .iload_n 2, 1), (9, .iconst 0, 1), (10, .ldc_w 430, 3), (13, .invokestatic 156, 3), (16, .ifCond .eq 16, 3), (19, .aload_n 0, 1), (20, .iload_n 1, 1), (21, .iload_n 2, 1), (22, .aload_n 0, 1), (23, .getfield 164, 3), (26, .invokevirtual 431, 3), (29, .goto 4, 3), (32, .iconst (-1), 1), (33, .ireturn, 1)]
def m_Rf_told : gp_M := (⟨"GoldPlateModel", "told", "(II)I"⟩, prog_14_method_75_code, 3, (some .int), 0, 0, 12, 2, cd_Rf_told)
def cd_Rf_costOfSet : List (Nat × Instr × Nat) := [(0, .iconst 0, 1), (1, .istore_n 2, 1), (2, .iconst 0, 1), (3, .istore_n 3, 1), (4, .iload_n 3, 1), (5, .aload_n 0, 1), (6, .getfield 153, 3), (9, .if_icmp .ge 31, 3), (12, .iload_n 2, 1), (13, .iload_n 1, 1), (14, .iload_n 3, 1), (15, .ishr, 1), (16, .iconst 1, 1), (17, .iand, 1), (18, .iconst 1, 1), (19, .if_icmp .ne 12, 3), (22, .aload_n 0, 1), (23, .getfield 16, 3), (26, .iload_n 3, 1), (27, .iaload, 1), (28, .goto 4, 3), (31, .iconst 0, 1), (32, .iadd, 1), (33, .istore_n 2, 1), (34, .iinc 3 1, 3), (37, .goto (-33), 3), (40, .iload_n 2, 1), (41, .ireturn, 1)]
def m_Rf_costOfSet : gp_M := (⟨"GoldPlateModel", "costOfSet", "(I)I"⟩, prog_14_method_76_code, 4, (some .int), 0, 0, 12, 1, cd_Rf_costOfSet)
def cd_Rf_worth : List (Nat × Instr × Nat) := [(0, .iload_n 3, 1), (1, .ifCond .eq 8, 3), (4, .bipush 17, 2), (6, .goto 4, 3), (9, .iconst 0, 1), (10, .istore 4, 2), (12, .iconst 0, 1), (13, .istore 5, 2), (15, .iload 5, 2), (17, .bipush 6, 2), (19, .if_icmp .ge 65, 3), (22, .iload_n 2, 1), (23, .iload 5, 2), (25, .ishr, 1), (26, .iconst 1, 1), (27, .iand, 1), (28, .ifCond .ne 6, 3), (31, .goto 47, 3), (34, .aload_n 0, 1), (35, .iload 5, 2), (37, .iload_n 1, 1), (38, .aload_n 0, 1), (39, .getfield 164, 3), (42, .invokevirtual 431, 3), (45, .invokestatic 434, 3), (48, .istore 6, 2), (50, .iload_n 3, 1), (51, .ifCond .eq 20, 3), (54, .iload 6, 2), (56, .iload 4, 2), (58, .if_icmp .ge 8, 3), (61, .iload 6, 2), (63, .goto 13, 3), (66, .iload 4, 2), (68, .goto 8, 3), (71, .iload 4, 2), (73, .iload 6, 2), (75, .iadd, 1), (76, .istore 4, 2), (78, .iinc 5 1, 3), (81, .goto (-66), 3), (84, .iload 4, 2), (86, .ireturn, 1)]
def m_Rf_worth : gp_M := (⟨"GoldPlateModel", "worth", "(IIZ)I"⟩, prog_14_method_77_code, 7, (some .int), 0, 0, 12, 3, cd_Rf_worth)
def cd_Rf_best : List (Nat × Instr × Nat) := [(0, .iload_n 1, 1), (1, .iconst 0, 1), (2, .sipush 9999, 3), (5, .invokestatic 156, 3), (8, .ifCond .eq 22, 3), (11, .iload_n 2, 1), (12, .iconst 1, 1), (13, .bipush 63, 2), (15, .invokestatic 156, 3), (18, .ifCond .eq 12, 3), (21, .iload_n 3, 1), (22, .iconst 0, 1), (23, .iconst 3, 1), (24, .invokestatic 156, 3), (27, .ifCond .ne 5, 3), (30, .iconst (-1), 1), (31, .ireturn, 1), (32, .aload_n 0, 1), (33, .getfield 153, 3), (36, .bipush 12, 2), (38, .if_icmp .ge 10, 3), (41, .aload_n 0, 1), (42, .getfield 153, 3), (45, .goto 5, 3), (48, .bipush 12, 2), (50, .istore 4, 2), (52, .iconst 0, 1), (53, .istore 5, 2), (55, .aload_n 0, 1), (56, .iconst 0, 1), (57, .iload_n 2, 1), (58, .iload_n 3, 1), (59, .iconst 1, 1), (60, .if_icmp .le 7, 3), (63, .iconst 1, 1), (64, .goto 4, 3), (67, .iconst 0, 1), (68, .invokevirtual 437, 3), (71, .istore 6, 2), (73, .iconst 1, 1), (74, .istore 7, 2), (76, .iload 7, 2), (78, .iconst 1, 1), (79, .iload 4, 2), (81, .ishl, 1), (82, .if_icmp .ge 81, 3), (85, .aload_n 0, 1), (86, .iload 7, 2), (88, .invokevirtual 441, 3), (91, .istore 8, 2), (93, .iload 8, 2), (95, .iload_n 1, 1), (96, .if_icmp .le 6, 3), (99, .goto 58, 3), (102, .aload_n 0, 1), (103, .iload 7, 2), (105, .iload_n 2, 1), (106, .iload_n 3, 1), (107, .iconst 1, 1), (108, .if_icmp .le 7, 3), (111, .iconst 1, 1), (112, .goto 4, 3), (115, .iconst 0, 1), (116, .invokevirtual 437, 3), (119, .istore 9, 2), (121, .iload 9, 2), (123, .iload 6, 2), (125, .if_icmp .lt 32, 3), (128, .iload 9, 2), (130, .iload 6, 2), (132, .if_icmp .ne 17, 3), (135, .iload 8, 2), (137, .aload_n 0, 1), (138, .iload 5, 2), (140, .invokevirtual 441, 3), (143, .if_icmp .lt 6, 3), (146, .goto 11, 3), (149, .iload 7, 2), (151, .istore 5, 2), (153, .iload 9, 2), (155, .istore 6, 2), (157, .iinc 7 1, 3), (160, .goto (-84), 3), (163, .iload_n 3, 1), (164, .iconst 2, 1), (165, .irem, 1), (166, .ifCond .ne 8, 3), (169, .iload 5, 2), (171, .goto 5, 3), (174, .iload 6, 2), (176, .ireturn, 1)]
def m_Rf_best : gp_M := (⟨"GoldPlateModel", "best", "(III)I"⟩, prog_14_method_78_code, 10, (some .int), 0, 0, 12, 3, cd_Rf_best)
def cd_Rf_allMarks : List (Nat × Instr × Nat) := [(0, .iconst 1, 1), (1, .aload_n 0, 1), (2, .getfield 153, 3), (5, .ishl, 1), (6, .iconst 1, 1), (7, .isub, 1), (8, .ireturn, 1)]
def m_Rf_allMarks : gp_M := (⟨"GoldPlateModel", "allMarks", "()I"⟩, prog_14_method_79_code, 1, (some .int), 0, 0, 12, 0, cd_Rf_allMarks)
def cd_Rf_never : List (Nat × Instr × Nat) := [(0, .aload_n 0, 1), (1, .iload_n 1, 1), (2, .invokevirtual 324, 3), (5, .ifCond .ne 5, 3), (8, .iconst (-1), 1), (9, .ireturn, 1), (10, .iconst 0, 1), (11, .istore_n 2, 1), (12, .iconst 0, 1), (13, .istore_n 3, 1), (14, .iload_n 3, 1), (15, .aload_n 0, 1), (16, .getfield 153, 3), (19, .if_icmp .ge 20, 3), (22, .iload_n 2, 1), (23, .iconst 1, 1), (24, .aload_n 0, 1), (25, .getfield 13, 3), (28, .iload_n 3, 1), (29, .iaload, 1), (30, .ishl, 1), (31, .ior, 1), (32, .istore_n 2, 1), (33, .iinc 3 1, 3), (36, .goto (-22), 3), (39, .iload_n 2, 1), (40, .aload_n 0, 1), (41, .iload_n 1, 1), (42, .aload_n 0, 1), (43, .invokevirtual 444, 3), (46, .aload_n 0, 1), (47, .getfield 164, 3), (50, .invokevirtual 431, 3), (53, .iconst (-1), 1), (54, .ixor, 1), (55, .iand, 1), (56, .ireturn, 1)]
def m_Rf_never : gp_M := (⟨"GoldPlateModel", "never", "(I)I"⟩, prog_14_method_80_code, 4, (some .int), 0, 0, 12, 1, cd_Rf_never)
def cd_Rf_deeper : List (Nat × Instr × Nat) := [(0, .aload_n 0, 1), (1, .iload_n 1, 1), (2, .invokevirtual 324, 3), (5, .ifCond .eq 14, 3), (8, .iload_n 2, 1), (9, .iconst 0, 1), (10, .sipush 999, 3), (13, .invokestatic 156, 3), (16, .ifCond .ne 5, 3), (19, .iconst (-1), 1), (20, .ireturn, 1), (21, .aload_n 0, 1), (22, .iload_n 1, 1), (23, .aload_n 0, 1), (24, .invokevirtual 444, 3), (27, .iload_n 2, 1), (28, .invokevirtual 431, 3), (31, .invokestatic 434, 3), (34, .istore_n 3, 1), (35, .iconst (-1), 1), (36, .istore 4, 2), (38, .iconst 0, 1), (39, .istore 5, 2), (41, .iload 5, 2), (43, .aload_n 0, 1), (44, .getfield 153, 3), (47, .if_icmp .ge 51, 3), (50, .aload_n 0, 1), (51, .iload 5, 2), (53, .putfield 40, 3), (56, .aload_n 0, 1), (57, .iload_n 1, 1), (58, .aload_n 0, 1), (59, .invokevirtual 444, 3), (62, .iload_n 2, 1), (63, .invokevirtual 431, 3), (66, .invokestatic 434, 3), (69, .istore 6, 2), (71, .aload_n 0, 1), (72, .iconst (-1), 1), (73, .putfield 40, 3), (76, .iload 6, 2), (78, .iload_n 3, 1), (79, .if_icmp .gt 6, 3), (82, .goto 10, 3), (85, .iload 5, 2), (87, .istore 4, 2), (89, .iload 6, 2), (91, .istore_n 3, 1), (92, .iinc 5 1, 3), (95, .goto (-54), 3), (98, .iload 4, 2), (100, .ireturn, 1)]
def m_Rf_deeper : gp_M := (⟨"GoldPlateModel", "deeper", "(II)I"⟩, prog_14_method_81_code, 7, (some .int), 0, 0, 12, 2, cd_Rf_deeper)
def cd_Rf_trial : List (Nat × Instr × Nat) := [(0, .aload_n 0, 1), (1, .getfield 182, 3), (4, .ifCond .eq 39, 3), (7, .aload_n 0, 1), (8, .getfield 182, 3), (11, .bipush 10, 2), (13, .if_icmp .gt 30, 3), (16, .iload_n 1, 1), (17, .iconst 0, 1), (18, .iconst 1, 1), (19, .iconst 2, 1), (20, .aload_n 0, 1), (21, .getfield 182, 3), (24, .imul, 1), (25, .ishl, 1), (26, .iconst 1, 1), (27, .isub, 1), (28, .invokestatic 156, 3), (31, .ifCond .eq 12, 3), (34, .aload_n 0, 1), (35, .getfield 447, 3), (38, .bipush 40, 2), (40, .if_icmp .ne 5, 3), (43, .iconst (-1), 1), (44, .ireturn, 1), (45, .iconst 0, 1), (46, .istore_n 2, 1), (47, .iload_n 2, 1), (48, .aload_n 0, 1), (49, .getfield 182, 3), (52, .if_icmp .ge 45, 3), (55, .iload_n 1, 1), (56, .iconst 2, 1), (57, .iload_n 2, 1), (58, .imul, 1), (59, .ishr, 1), (60, .iconst 3, 1), (61, .iand, 1), (62, .istore_n 3, 1), (63, .iload_n 3, 1), (64, .iconst 1, 1), (65, .if_icmp .le 26, 3), (68, .aload_n 0, 1), (69, .getfield 31, 3), (72, .iconst 2, 1), (73, .aload_n 0, 1), (74, .getfield 37, 3), (77, .iload_n 2, 1), (78, .iaload, 1), (79, .imul, 1), (80, .iload_n 3, 1), (81, .iadd, 1), (82, .iconst 2, 1), (83, .isub, 1), (84, .iaload, 1), (85, .iconst (-1), 1), (86, .if_icmp .ne 5, 3), (89, .iconst (-1), 1), (90, .ireturn, 1), (91, .iinc 2 1, 3), (94, .goto (-47), 3), (97, .aload_n 0, 1), (98, .getfield 141, 3), (101, .aload_n 0, 1), (102, .getfield 447, 3), (105, .aload_n 0, 1), (106, .getfield 182, 3), (109, .iastore, 1), (110, .aload_n 0, 1), (111, .getfield 147, 3), (114, .aload_n 0, 1), (115, .getfield 447, 3), (118, .iload_n 1, 1), (119, .iastore, 1), (120, .iconst 0, 1), (121, .istore_n 2, 1), (122, .iload_n 2, 1), (123, .aload_n 0, 1), (124, .getfield 182, 3), (127, .if_icmp .ge 29, 3), (130, .aload_n 0, 1), (131, .getfield 144, 3), (134, .bipush 10, 2), (136, .aload_n 0, 1), (137, .getfield 447, 3), (140, .imul, 1), (141, .iload_n 2, 1), (142, .iadd, 1), (143, .aload_n 0, 1), (144, .getfield 37, 3), (147, .iload_n 2, 1), (148, .iaload, 1), (149, .iastore, 1), (150, .iinc 2 1, 3), (153, .goto (-31), 3), (156, .aload_n 0, 1), (157, .dup, 1), (158, .getfield 447, 3), (161, .iconst 1, 1), (162, .iadd, 1), (163, .putfield 447, 3), (166, .aload_n 0, 1), (167, .getfield 447, 3), (170, .iconst 1, 1), (171, .isub, 1), (172, .ireturn, 1)]
def m_Rf_trial : gp_M := (⟨"GoldPlateModel", "trial", "(I)I"⟩, prog_14_method_82_code, 4, (some .int), 0, 0, 12, 1, cd_Rf_trial)
def cd_Rf_cheapestNow : List (Nat × Instr × Nat) := [(0, .iconst 0, 1), (1, .istore_n 1, 1), (2, .iconst 0, 1), (3, .istore_n 2, 1), (4, .iload_n 2, 1), (5, .aload_n 0, 1), (6, .getfield 182, 3), (9, .if_icmp .ge 22, 3), (12, .iload_n 1, 1), (13, .aload_n 0, 1), (14, .getfield 105, 3), (17, .iload_n 2, 1), (18, .iaload, 1), (19, .iconst 2, 1), (20, .iload_n 2, 1), (21, .imul, 1), (22, .ishl, 1), (23, .ior, 1), (24, .istore_n 1, 1), (25, .iinc 2 1, 3), (28, .goto (-24), 3), (31, .iload_n 1, 1), (32, .ireturn, 1)]
def m_Rf_cheapestNow : gp_M := (⟨"GoldPlateModel", "cheapestNow", "()I"⟩, prog_14_method_83_code, 3, (some .int), 0, 0, 12, 0, cd_Rf_cheapestNow)
def cd_Rf_agrees : List (Nat × Instr × Nat) := [(0, .iload_n 1, 1), (1, .iconst 0, 1), (2, .aload_n 0, 1), (3, .getfield 447, 3), (6, .iconst 1, 1), (7, .isub, 1), (8, .invokestatic 156, 3), (11, .ifCond .ne 5, 3), (14, .iconst (-1), 1), (15, .ireturn, 1), (16, .aload_n 0, 1), (17, .getfield 182, 3), (20, .istore_n 2, 1), (21, .iconst 0, 1), (22, .istore_n 3, 1), (23, .iload_n 3, 1), (24, .iload_n 2, 1), (25, .if_icmp .ge 21, 3), (28, .aload_n 0, 1), (29, .getfield 150, 3), (32, .iload_n 3, 1), (33, .aload_n 0, 1), (34, .getfield 37, 3), (37, .iload_n 3, 1), (38, .iaload, 1), (39, .iastore, 1), (40, .iinc 3 1, 3), (43, .goto (-20), 3), (46, .aload_n 0, 1), (47, .aload_n 0, 1), (48, .getfield 141, 3), (51, .iload_n 1, 1), (52, .iaload, 1), (53, .putfield 182, 3), (56, .iconst 0, 1), (57, .istore_n 3, 1), (58, .iload_n 3, 1), (59, .aload_n 0, 1), (60, .getfield 182, 3), (63, .if_icmp .ge 26, 3), (66, .aload_n 0, 1), (67, .getfield 37, 3), (70, .iload_n 3, 1), (71, .aload_n 0, 1), (72, .getfield 144, 3), (75, .bipush 10, 2), (77, .iload_n 1, 1), (78, .imul, 1), (79, .iload_n 3, 1), (80, .iadd, 1), (81, .iaload, 1), (82, .iastore, 1), (83, .iinc 3 1, 3), (86, .goto (-28), 3), (89, .iconst 0, 1), (90, .istore_n 3, 1), (91, .iconst 0, 1), (92, .istore 4, 2), (94, .iload 4, 2), (96, .bipush 6, 2), (98, .if_icmp .ge 39, 3), (101, .aload_n 0, 1), (102, .iload 4, 2), (104, .invokevirtual 378, 3), (107, .iload_n 3, 1), (108, .aload_n 0, 1), (109, .invokevirtual 450, 3), (112, .aload_n 0, 1), (113, .getfield 147, 3), (116, .iload_n 1, 1), (117, .iaload, 1), (118, .if_icmp .ne 10, 3), (121, .iconst 1, 1), (122, .iload 4, 2), (124, .ishl, 1), (125, .goto 4, 3), (128, .iconst 0, 1), (129, .ior, 1), (130, .istore_n 3, 1), (131, .iinc 4 1, 3), (134, .goto (-40), 3), (137, .aload_n 0, 1), (138, .iload_n 2, 1), (139, .putfield 182, 3), (142, .iconst 0, 1), (143, .istore 4, 2), (145, .iload 4, 2), (147, .iload_n 2, 1), (148, .if_icmp .ge 23, 3), (151, .aload_n 0, 1), (152, .getfield 37, 3), (155, .iload 4, 2), (157, .aload_n 0, 1), (158, .getfield 150, 3), (161, .iload 4, 2), (163, .iaload, 1), (164, .iastore, 1), (165, .iinc 4 1, 3), (168, .goto (-23), 3), (171, .iload_n 3, 1), (172, .ireturn, 1)]
def m_Rf_agrees : gp_M := (⟨"GoldPlateModel", "agrees", "(I)I"⟩, prog_14_method_84_code, 5, (some .int), 0, 0, 12, 1, cd_Rf_agrees)
def cd_Rf_isOfThis : List (Nat × Instr × Nat) := [(0, .aload_n 0, 1), (1, .getfield 141, 3), (4, .iload_n 1, 1), (5, .iaload, 1), (6, .aload_n 0, 1), (7, .getfield 182, 3), (10, .if_icmp .ne 7, 3), (13, .iconst 1, 1), (14, .goto 4, 3), (17, .iconst 0, 1), (18, .istore_n 2, 1), (19, .iconst 0, 1), (20, .istore_n 3, 1), (21, .iload_n 3, 1), (22, .aload_n 0, 1), (23, .getfield 182, 3), (26, .if_icmp .ge 39, 3), (29, .iload_n 2, 1), (30, .ifCond .eq 35, 3), (33, .aload_n 0, 1), (34, .getfield 144, 3), (37, .bipush 10, 2), (39, .iload_n 1, 1), (40, .imul, 1), (41, .iload_n 3, 1), (42, .iadd, 1), (43, .iaload, 1), (44, .aload_n 0, 1), (45, .getfield 37, 3), (48, .iload_n 3, 1), (49, .iaload, 1), (50, .if_icmp .ne 7, 3), (53, .iconst 1, 1), (54, .goto 4, 3), (57, .iconst 0, 1), (58, .istore_n 2, 1), (59, .iinc 3 1, 3), (62, .goto (-41), 3), (65, .iload_n 2, 1), (66, .ireturn, 1)]
def m_Rf_isOfThis : gp_M := (⟨"GoldPlateModel", "isOfThis", "(I)Z"⟩, prog_14_method_85_code, 4, (some .boolean), 0, 0, 12, 1, cd_Rf_isOfThis)
def cd_Rf_ours : List (Nat × Instr × Nat) := [(0, .iload_n 1, 1), (1, .iconst 0, 1), (2, .bipush 63, 2), (4, .invokestatic 156, 3), (7, .ifCond .eq 12, 3), (10, .aload_n 0, 1), (11, .getfield 182, 3), (14, .bipush 10, 2), (16, .if_icmp .le 5, 3), (19, .iconst (-1), 1), (20, .ireturn, 1), (21, .iconst 0, 1), (22, .istore_n 2, 1), (23, .iconst 0, 1), (24, .istore_n 3, 1), (25, .iconst 0, 1), (26, .istore 4, 2), (28, .iload 4, 2), (30, .aload_n 0, 1), (31, .getfield 182, 3), (34, .if_icmp .ge 21, 3), (37, .iload_n 2, 1), (38, .iconst 1, 1), (39, .aload_n 0, 1), (40, .getfield 37, 3), (43, .iload 4, 2), (45, .iaload, 1), (46, .ishl, 1), (47, .ior, 1), (48, .istore_n 2, 1), (49, .iinc 4 1, 3), (52, .goto (-24), 3), (55, .iconst 0, 1), (56, .istore 4, 2), (58, .iload 4, 2), (60, .aload_n 0, 1), (61, .getfield 447, 3), (64, .if_icmp .ge 73, 3), (67, .aload_n 0, 1), (68, .iload 4, 2), (70, .invokevirtual 453, 3), (73, .ifCond .ne 6, 3), (76, .goto 55, 3), (79, .iconst 1, 1), (80, .istore_n 3, 1), (81, .iconst 0, 1), (82, .istore 5, 2), (84, .iload 5, 2), (86, .aload_n 0, 1), (87, .getfield 182, 3), (90, .if_icmp .ge 41, 3), (93, .aload_n 0, 1), (94, .getfield 147, 3), (97, .iload 4, 2), (99, .iaload, 1), (100, .iconst 2, 1), (101, .iload 5, 2), (103, .imul, 1), (104, .ishr, 1), (105, .iconst 3, 1), (106, .iand, 1), (107, .iconst 1, 1), (108, .if_icmp .eq 17, 3), (111, .iload_n 2, 1), (112, .iconst 1, 1), (113, .aload_n 0, 1), (114, .getfield 37, 3), (117, .iload 5, 2), (119, .iaload, 1), (120, .ishl, 1), (121, .iconst (-1), 1), (122, .ixor, 1), (123, .iand, 1), (124, .istore_n 2, 1), (125, .iinc 5 1, 3), (128, .goto (-44), 3), (131, .iinc 4 1, 3), (134, .goto (-76), 3), (137, .iload_n 3, 1), (138, .ifCond .ne 5, 3), (141, .iconst 0, 1), (142, .ireturn, 1), (143, .iconst 0, 1), (144, .istore 4, 2), (146, .iload 4, 2), (148, .bipush 6, 2), (150, .if_icmp .ge 70, 3), (153, .iload_n 1, 1), (154, .iload 4, 2), (156, .ishr, 1), (157, .iconst 1, 1), (158, .iand, 1), (159, .ifCond .ne 6, 3), (162, .goto 52, 3), (165, .aload_n 0, 1), (166, .iload 4, 2), (168, .invokevirtual 378, 3), (171, .iconst 0, 1), (172, .istore 5, 2), (174, .iload 5, 2), (176, .aload_n 0, 1), (177, .getfield 182, 3), (180, .if_icmp .ge 34, 3), (183, .aload_n 0, 1), (184, .getfield 105, 3), (187, .iload 5, 2), (189, .iaload, 1), (190, .iconst 1, 1), (191, .if_icmp .ne 17, 3), (194, .iload_n 2, 1), (195, .iconst 1, 1), (196, .aload_n 0, 1), (197, .getfield 37, 3), (200, .iload 5, 2), (202, .iaload, 1), (203, .ishl, 1), (204, .iconst (-1), 1), (205, .ixor, 1), (206, .iand, 1), (207, .istore_n 2, 1), (208, .iinc 5 1, 3), (211, .goto (-37), 3), (214, .iinc 4 1, 3), (217, .goto (-71), 3), (220, .iload_n 2, 1), (221, .ireturn, 1)]
def m_Rf_ours : gp_M := (⟨"GoldPlateModel", "ours", "(I)I"⟩, prog_14_method_86_code, 6, (some .int), 0, 0, 12, 1, cd_Rf_ours)
def cd_Rf_look : List (Nat × Instr × Nat) := [(0, .iload_n 1, 1), (1, .tableswitch 69 0 5 #[39, 44, 49, 54, 59, 64], 39), (40, .aload_n 0, 1), (41, .getfield 153, 3), (44, .ireturn, 1), (45, .aload_n 0, 1), (46, .getfield 182, 3), (49, .ireturn, 1), (50, .aload_n 0, 1), (51, .getfield 387, 3), (54, .ireturn, 1), (55, .aload_n 0, 1), (56, .getfield 414, 3), (59, .ireturn, 1), (60, .aload_n 0, 1), (61, .getfield 447, 3), (64, .ireturn, 1), (65, .aload_n 0, 1), (66, .getfield 164, 3), (69, .ireturn, 1), (70, .iconst (-1), 1), (71, .ireturn, 1)]
def m_Rf_look : gp_M := (⟨"GoldPlateModel", "look", "(I)I"⟩, prog_14_method_87_code, 2, (some .int), 0, 0, 12, 1, cd_Rf_look)
def cd_Ji_bitCount : List (Nat × Instr × Nat) := [(0, .iload_n 0, 1), (1, .iload_n 0, 1), (2, .iconst 1, 1), (3, .iushr, 1), (4, .ldc_w 265, 3), (7, .iand, 1), (8, .isub, 1), (9, .istore_n 0, 1), (10, .iload_n 0, 1), (11, .ldc_w 266, 3), (14, .iand, 1), (15, .iload_n 0, 1), (16, .iconst 2, 1), (17, .iushr, 1), (18, .ldc_w 266, 3), (21, .iand, 1), (22, .iadd, 1), (23, .istore_n 0, 1), (24, .iload_n 0, 1), (25, .iload_n 0, 1), (26, .iconst 4, 1), (27, .iushr, 1), (28, .iadd, 1), (29, .ldc_w 267, 3), (32, .iand, 1), (33, .istore_n 0, 1), (34, .iload_n 0, 1), (35, .iload_n 0, 1), (36, .bipush 8, 2), (38, .iushr, 1), (39, .iadd, 1), (40, .istore_n 0, 1), (41, .iload_n 0, 1), (42, .iload_n 0, 1), (43, .bipush 16, 2), (45, .iushr, 1), (46, .iadd, 1), (47, .istore_n 0, 1), (48, .iload_n 0, 1), (49, .bipush 63, 2), (51, .iand, 1), (52, .ireturn, 1)]
def m_Ji_bitCount : gp_M := (⟨"java/lang/Integer", "bitCount", "(I)I"⟩, prog_16_method_49_code, 1, (some .int), 0, 0, 15, 1, cd_Ji_bitCount)
def cd_Jm_abs : List (Nat × Instr × Nat) := [(0, .iload_n 0, 1), (1, .ifCond .ge 8, 3), (4, .iload_n 0, 1), (5, .ineg, 1), (6, .goto 4, 3), (9, .iload_n 0, 1), (10, .ireturn, 1)]
def m_Jm_abs : gp_M := (⟨"java/lang/Math", "abs", "(I)I"⟩, prog_17_method_59_code, 1, (some .int), 0, 0, 14, 1, cd_Jm_abs)
def cd_Jm_max : List (Nat × Instr × Nat) := [(0, .iload_n 0, 1), (1, .iload_n 1, 1), (2, .if_icmp .lt 7, 3), (5, .iload_n 0, 1), (6, .goto 4, 3), (9, .iload_n 1, 1), (10, .ireturn, 1)]
def m_Jm_max : gp_M := (⟨"java/lang/Math", "max", "(II)I"⟩, prog_17_method_65_code, 2, (some .int), 0, 0, 14, 2, cd_Jm_max)
def cd_Jm_min : List (Nat × Instr × Nat) := [(0, .iload_n 0, 1), (1, .iload_n 1, 1), (2, .if_icmp .gt 7, 3), (5, .iload_n 0, 1), (6, .goto 4, 3), (9, .iload_n 1, 1), (10, .ireturn, 1)]
def m_Jm_min : gp_M := (⟨"java/lang/Math", "min", "(II)I"⟩, prog_17_method_69_code, 2, (some .int), 0, 0, 14, 2, cd_Jm_min)
def cd_Js_length : List (Nat × Instr × Nat) := [(0, .aload_n 0, 1), (1, .getfield 9, 3), (4, .arraylength, 1), (5, .aload_n 0, 1), (6, .invokevirtual 335, 3), (9, .ishr, 1), (10, .ireturn, 1)]
def m_Js_length : gp_M := (⟨"java/lang/String", "length", "()I"⟩, prog_18_method_54_code, 1, (some .int), 0, 0, 16, 0, cd_Js_length)
def cd_Js_charAt : List (Nat × Instr × Nat) := [(0, .aload_n 0, 1), (1, .invokevirtual 492, 3), (4, .ifCond .eq 12, 3), (7, .aload_n 0, 1), (8, .getfield 9, 3), (11, .iload_n 1, 1), (12, .invokestatic 495, 3), (15, .ireturn, 1), (16, .aload_n 0, 1), (17, .getfield 9, 3), (20, .iload_n 1, 1), (21, .invokestatic 498, 3), (24, .ireturn, 1)]
def m_Js_charAt : gp_M := (⟨"java/lang/String", "charAt", "(I)C"⟩, prog_18_method_56_code, 2, (some .char), 0, 0, 16, 1, cd_Js_charAt)
def cd_Js_indexOf : List (Nat × Instr × Nat) := [(0, .aload_n 0, 1), (1, .iload_n 1, 1), (2, .iconst 0, 1), (3, .invokevirtual 633, 3), (6, .ireturn, 1)]
def m_Js_indexOf : gp_M := (⟨"java/lang/String", "indexOf", "(I)I"⟩, prog_18_method_79_code, 2, (some .int), 0, 0, 16, 1, cd_Js_indexOf)
def cd_Js_indexOf_d33 : List (Nat × Instr × Nat) := [(0, .aload_n 0, 1), (1, .invokevirtual 492, 3), (4, .ifCond .eq 19, 3), (7, .aload_n 0, 1), (8, .getfield 9, 3), (11, .iload_n 1, 1), (12, .iload_n 2, 1), (13, .aload_n 0, 1), (14, .invokevirtual 505, 3), (17, .invokestatic 637, 3), (20, .goto 16, 3), (23, .aload_n 0, 1), (24, .getfield 9, 3), (27, .iload_n 1, 1), (28, .iload_n 2, 1), (29, .aload_n 0, 1), (30, .invokevirtual 505, 3), (33, .invokestatic 640, 3), (36, .ireturn, 1)]
def m_Js_indexOf_d33 : gp_M := (⟨"java/lang/String", "indexOf", "(II)I"⟩, prog_18_method_80_code, 3, (some .int), 0, 0, 16, 2, cd_Js_indexOf_d33)
def cd_Js_coder : List (Nat × Instr × Nat) := [(0, .getstatic 38, 3), (3, .ifCond .eq 10, 3), (6, .aload_n 0, 1), (7, .getfield 15, 3), (10, .goto 4, 3), (13, .iconst 1, 1), (14, .ireturn, 1)]
def m_Js_coder : gp_M := (⟨"java/lang/String", "coder", "()B"⟩, prog_18_method_152_code, 1, (some .byte), 0, 0, 16, 0, cd_Js_coder)
def cd_Js_isLatin1 : List (Nat × Instr × Nat) := [(0, .getstatic 38, 3), (3, .ifCond .eq 14, 3), (6, .aload_n 0, 1), (7, .getfield 15, 3), (10, .ifCond .ne 7, 3), (13, .iconst 1, 1), (14, .goto 4, 3), (17, .iconst 0, 1), (18, .ireturn, 1)]
def m_Js_isLatin1 : gp_M := (⟨"java/lang/String", "isLatin1", "()Z"⟩, prog_18_method_154_code, 1, (some .boolean), 0, 0, 16, 0, cd_Js_isLatin1)
def cd_Js_checkIndex : List (Nat × Instr × Nat) := [(0, .iload_n 0, 1), (1, .iload_n 1, 1), (2, .getstatic 1053, 3), (5, .invokestatic 1059, 3), (8, .pop, 1), (9, .return_, 1)]
def m_Js_checkIndex : gp_M := (⟨"java/lang/String", "checkIndex", "(II)V"⟩, prog_18_method_155_code, 2, none, 0, 0, 16, 2, cd_Js_checkIndex)
def cd_Js_checkBoundsBeginEnd : List (Nat × Instr × Nat) := [(0, .iload_n 0, 1), (1, .iload_n 1, 1), (2, .iload_n 2, 1), (3, .getstatic 1053, 3), (6, .invokestatic 1062, 3), (9, .pop, 1), (10, .return_, 1)]
def m_Js_checkBoundsBeginEnd : gp_M := (⟨"java/lang/String", "checkBoundsBeginEnd", "(III)V"⟩, prog_18_method_158_code, 3, none, 0, 0, 16, 3, cd_Js_checkBoundsBeginEnd)
def cd_Jl_charAt : List (Nat × Instr × Nat) := [(0, .iload_n 1, 1), (1, .aload_n 0, 1), (2, .arraylength, 1), (3, .invokestatic 9, 3), (6, .aload_n 0, 1), (7, .iload_n 1, 1), (8, .baload, 1), (9, .sipush 255, 3), (12, .iand, 1), (13, .i2c, 1), (14, .ireturn, 1)]
def m_Jl_charAt : gp_M := (⟨"java/lang/StringLatin1", "charAt", "([BI)C"⟩, prog_19_method_2_code, 2, (some .char), 0, 0, 17, 2, cd_Jl_charAt)
def cd_Jl_canEncode : List (Nat × Instr × Nat) := [(0, .iload_n 0, 1), (1, .ifCond .lt 14, 3), (4, .iload_n 0, 1), (5, .sipush 255, 3), (8, .if_icmp .gt 7, 3), (11, .iconst 1, 1), (12, .goto 4, 3), (15, .iconst 0, 1), (16, .ireturn, 1)]
def m_Jl_canEncode : gp_M := (⟨"java/lang/StringLatin1", "canEncode", "(I)Z"⟩, prog_19_method_4_code, 1, (some .boolean), 0, 0, 17, 1, cd_Jl_canEncode)
def cd_Jl_indexOf : List (Nat × Instr × Nat) := [(0, .iload_n 1, 1), (1, .invokestatic 88, 3), (4, .ifCond .ne 5, 3), (7, .iconst (-1), 1), (8, .ireturn, 1), (9, .iload_n 2, 1), (10, .iconst 0, 1), (11, .invokestatic 92, 3), (14, .istore_n 2, 1), (15, .iload_n 3, 1), (16, .aload_n 0, 1), (17, .arraylength, 1), (18, .invokestatic 38, 3), (21, .istore_n 3, 1), (22, .iload_n 2, 1), (23, .iload_n 3, 1), (24, .if_icmp .lt 5, 3), (27, .iconst (-1), 1), (28, .ireturn, 1), (29, .aload_n 0, 1), (30, .iload_n 1, 1), (31, .iload_n 2, 1), (32, .iload_n 3, 1), (33, .invokestatic 95, 3), (36, .ireturn, 1)]
def m_Jl_indexOf : gp_M := (⟨"java/lang/StringLatin1", "indexOf", "([BIII)I"⟩, prog_19_method_22_code, 4, (some .int), 0, 0, 17, 4, cd_Jl_indexOf)
def cd_Jl_indexOfChar : List (Nat × Instr × Nat) := [(0, .iload_n 1, 1), (1, .i2b, 1), (2, .istore 4, 2), (4, .iload_n 2, 1), (5, .istore 5, 2), (7, .iload 5, 2), (9, .iload_n 3, 1), (10, .if_icmp .ge 21, 3), (13, .aload_n 0, 1), (14, .iload 5, 2), (16, .baload, 1), (17, .iload 4, 2), (19, .if_icmp .ne 6, 3), (22, .iload 5, 2), (24, .ireturn, 1), (25, .iinc 5 1, 3), (28, .goto (-21), 3), (31, .iconst (-1), 1), (32, .ireturn, 1)]
def m_Jl_indexOfChar : gp_M := (⟨"java/lang/StringLatin1", "indexOfChar", "([BIII)I"⟩, prog_19_method_23_code, 6, (some .int), 0, 0, 17, 4, cd_Jl_indexOfChar)
def cd_Jp_checkIndex : List (Nat × Instr × Nat) := [(0, .iload_n 0, 1), (1, .ifCond .lt 8, 3), (4, .iload_n 0, 1), (5, .iload_n 1, 1), (6, .if_icmp .lt 10, 3), (9, .aload_n 2, 1), (10, .iload_n 0, 1), (11, .iload_n 1, 1), (12, .invokestatic 95, 3), (15, .athrow, 1), (16, .iload_n 0, 1), (17, .ireturn, 1)]
def m_Jp_checkIndex : gp_M := (⟨"jdk/internal/util/Preconditions", "checkIndex", "(IILjava/util/function/BiFunction;)I"⟩, prog_21_method_11_code, 3, (some .int), 0, 0, 18, 3, cd_Jp_checkIndex)
def cd_Jp_checkFromToIndex : List (Nat × Instr × Nat) := [(0, .iload_n 0, 1), (1, .ifCond .lt 13, 3), (4, .iload_n 0, 1), (5, .iload_n 1, 1), (6, .if_icmp .gt 8, 3), (9, .iload_n 1, 1), (10, .iload_n 2, 1), (11, .if_icmp .le 11, 3), (14, .aload_n 3, 1), (15, .iload_n 0, 1), (16, .iload_n 1, 1), (17, .iload_n 2, 1), (18, .invokestatic 99, 3), (21, .athrow, 1), (22, .iload_n 0, 1), (23, .ireturn, 1)]
def m_Jp_checkFromToIndex : gp_M := (⟨"jdk/internal/util/Preconditions", "checkFromToIndex", "(IIILjava/util/function/BiFunction;)I"⟩, prog_21_method_12_code, 4, (some .int), 0, 0, 18, 4, cd_Jp_checkFromToIndex)
def gp_fl : Nat → List (Nat × Nat × Nat × Nat × Bool) := fun k => match k with
  | 0 => [(11, 0, 0, 3, true), (15, 0, 1, 0, false)]
  | 1 => [(9, 1, 2, 3, true), (15, 1, 3, 3, true), (18, 1, 4, 3, true), (21, 1, 0, 3, true), (25, 1, 1, 3, true), (29, 5, 3, 0, false), (41, 1, 6, 0, false), (42, 1, 7, 0, false), (45, 1, 8, 1, false), (49, 1, 10, 0, false), (52, 1, 9, 0, false), (55, 1, 11, 0, false), (58, 1, 5, 0, false), (69, 5, 4, 0, false), (80, 5, 0, 3, true), (84, 2, 2, 0, false), (93, 2, 5, 0, false), (96, 2, 1, 0, false)]
  | 2 => [(9, 2, 7, 0, false), (15, 2, 8, 0, false), (18, 2, 1, 0, false)]
  | 3 => [(9, 3, 0, 3, true), (15, 3, 1, 3, true), (18, 3, 2, 3, true), (21, 3, 3, 3, true), (24, 3, 4, 0, false), (28, 3, 5, 0, false), (31, 3, 6, 0, false), (34, 3, 7, 0, false), (37, 3, 8, 0, false), (40, 3, 9, 0, false), (43, 3, 10, 0, false), (46, 3, 11, 0, false), (49, 3, 12, 1, false), (53, 3, 13, 1, false)]
  | 4 => [(9, 4, 0, 3, true), (15, 4, 1, 3, true), (18, 4, 2, 3, true), (21, 4, 3, 3, true), (24, 4, 8, 0, false), (31, 4, 9, 3, false), (35, 4, 4, 0, false), (38, 4, 7, 0, false), (41, 4, 5, 0, false), (100, 4, 6, 0, false), (116, 3, 12, 1, false), (120, 3, 13, 1, false), (123, 3, 7, 0, false), (126, 3, 8, 0, false), (129, 3, 1, 3, true), (132, 3, 9, 0, false), (138, 3, 2, 3, true), (144, 3, 3, 3, true), (147, 3, 10, 0, false), (150, 3, 11, 0, false), (159, 3, 4, 0, false), (162, 3, 5, 0, false), (165, 3, 6, 0, false), (185, 3, 0, 3, true)]
  | 5 => [(11, 5, 0, 3, true), (17, 5, 1, 3, true), (21, 5, 2, 3, true), (25, 5, 3, 0, false), (29, 2, 3, 0, false), (32, 5, 4, 0, false), (35, 2, 0, 0, false), (42, 2, 5, 0, false), (51, 2, 4, 0, false), (54, 3, 4, 0, false), (60, 2, 6, 0, false), (63, 3, 5, 0, false), (68, 2, 1, 0, false)]
  | 6 => [(9, 6, 2, 3, true), (15, 6, 3, 3, true), (18, 6, 4, 3, true), (21, 6, 5, 3, true), (24, 6, 6, 3, true), (27, 6, 7, 3, true), (30, 6, 0, 3, true), (34, 6, 1, 3, true), (44, 6, 8, 0, false), (52, 5, 0, 3, true), (72, 2, 6, 0, false), (77, 3, 5, 0, false), (80, 2, 5, 0, false), (83, 2, 7, 0, false), (86, 2, 8, 0, false), (94, 8, 0, 3, true), (97, 2, 0, 0, false), (100, 2, 2, 0, false), (117, 6, 11, 1, false), (121, 6, 10, 0, false), (124, 6, 9, 0, false), (139, 6, 12, 0, false)]
  | 7 => [(11, 7, 0, 3, true), (15, 7, 1, 3, true), (18, 7, 2, 3, true), (21, 7, 3, 3, true), (24, 7, 4, 3, true), (27, 7, 5, 3, true), (30, 7, 6, 3, true), (33, 7, 7, 0, false), (37, 7, 8, 0, false), (40, 7, 9, 0, false), (43, 7, 10, 0, false), (60, 7, 11, 0, false), (63, 7, 12, 0, false)]
  | 8 => [(9, 8, 0, 3, true), (13, 8, 1, 3, true), (16, 8, 2, 0, false)]
  | 9 => [(11, 9, 0, 3, true), (15, 9, 1, 3, true), (19, 9, 2, 3, true), (22, 9, 3, 0, false)]
  | 10 => [(9, 10, 0, 3, true), (13, 10, 1, 3, true), (16, 10, 2, 0, false), (20, 0, 1, 0, false), (46, 8, 0, 3, true)]
  | 11 => [(18, 11, 0, 3, true), (22, 11, 1, 3, true), (26, 11, 3, 3, true), (33, 11, 2, 3, true), (42, 11, 4, 3, true), (51, 11, 5, 3, true), (58, 11, 6, 3, true), (62, 11, 7, 3, true), (68, 11, 8, 3, true), (75, 11, 9, 3, true), (82, 11, 10, 3, true), (90, 5, 3, 0, false), (94, 5, 0, 3, true), (98, 2, 0, 0, false), (103, 2, 1, 0, false), (106, 2, 2, 0, false), (109, 2, 3, 0, false), (112, 2, 4, 0, false), (133, 2, 5, 0, false), (136, 2, 6, 0, false), (139, 2, 8, 0, false), (145, 2, 7, 0, false), (148, 5, 1, 3, true), (152, 5, 4, 0, false), (167, 11, 11, 2, false), (171, 11, 12, 0, false), (181, 4, 4, 0, false), (199, 4, 9, 3, false), (203, 3, 7, 0, false), (206, 4, 7, 0, false), (209, 4, 8, 0, false), (226, 6, 12, 0, false), (253, 10, 2, 0, false), (256, 10, 0, 3, true), (262, 0, 1, 0, false), (263, 3, 6, 0, false), (281, 7, 4, 3, true), (284, 7, 5, 3, true), (287, 7, 6, 3, true), (293, 7, 8, 0, false), (296, 7, 9, 0, false), (299, 7, 10, 0, false), (305, 7, 11, 0, false), (308, 7, 12, 0, false), (319, 1, 10, 0, false), (322, 1, 11, 0, false), (346, 9, 3, 0, false), (347, 9, 0, 3, true), (351, 9, 1, 3, true), (357, 9, 2, 3, true), (369, 7, 7, 0, false)]
  | 12 => [(7, 12, 3, 3, true), (13, 12, 4, 3, true), (16, 12, 5, 3, true), (19, 12, 6, 3, true), (22, 12, 7, 3, true), (25, 12, 8, 3, true), (28, 12, 9, 3, true), (31, 12, 10, 3, true), (34, 12, 11, 3, true), (37, 12, 12, 3, true), (40, 12, 13, 0, false), (44, 12, 15, 3, true), (47, 12, 16, 3, true), (50, 12, 17, 3, true), (53, 12, 18, 3, true), (56, 12, 19, 3, true), (59, 12, 20, 3, true), (62, 12, 21, 3, true), (65, 12, 22, 3, true), (68, 12, 23, 3, true), (71, 12, 24, 3, true), (74, 12, 25, 3, true), (77, 12, 26, 3, true), (80, 12, 27, 3, true), (83, 12, 28, 3, true), (86, 12, 29, 3, true), (89, 12, 30, 3, true), (93, 12, 31, 3, true), (96, 12, 42, 0, false), (99, 12, 43, 3, true), (102, 12, 44, 3, true), (105, 12, 45, 3, true), (108, 12, 52, 3, true), (111, 12, 53, 3, true), (114, 12, 54, 3, true), (117, 12, 55, 3, true), (120, 12, 58, 3, true), (123, 12, 59, 3, true), (126, 12, 60, 3, true), (129, 12, 61, 3, true), (132, 12, 62, 3, true), (135, 12, 63, 3, true), (138, 12, 64, 3, true), (141, 12, 66, 3, true), (144, 12, 67, 3, true), (147, 12, 68, 3, true), (150, 12, 69, 3, true), (153, 12, 0, 0, false), (164, 12, 1, 0, false), (182, 12, 2, 0, false), (185, 12, 33, 0, false), (188, 12, 34, 0, false), (191, 12, 36, 0, false), (256, 12, 35, 0, false), (268, 12, 37, 0, false), (271, 12, 38, 0, false), (274, 12, 39, 0, false), (283, 12, 32, 0, false), (286, 12, 41, 0, false), (327, 12, 40, 0, false), (343, 12, 46, 0, false), (355, 12, 47, 0, false), (358, 12, 48, 0, false), (361, 12, 49, 0, false), (387, 12, 50, 0, false), (390, 12, 51, 0, false), (402, 12, 56, 0, false), (414, 12, 57, 0, false), (447, 12, 65, 0, false)]
  | _ => []
def gp_ml : Nat → List (Nat × Nat × gp_M) := fun k => match k with
  | 0 => [(19, 0, m_Br_heightFor), (23, 1, m_Br_placeOf)]
  | 1 => [(61, 0, m_Ch_ableMarks), (65, 0, m_Ch_grow), (72, 0, m_Pl_isAble), (76, 0, m_Ch_judge), (89, 0, m_Ch_gains), (99, 0, m_Ch_scoreOf), (103, 1, m_Ji_bitCount)]
  | 3 => [(56, 0, m_Su_work)]
  | 4 => [(44, 0, m_Pa_runEnd), (48, 0, m_Pa_scanRun), (52, 0, m_Pa_addToken), (56, 1, m_Pa_isLetter), (60, 0, m_Pa_keyword), (64, 1, m_Pa_isDigit), (67, 0, m_Pa_numberOf), (72, 0, m_Js_indexOf), (79, 0, m_Pa_indexIn), (85, 0, m_Js_length), (89, 0, m_Js_charAt), (93, 0, m_Pa_standsAt), (97, 0, m_Pa_forget), (103, 0, m_Mi_clear), (106, 0, m_Pa_kind), (109, 0, m_Pa_readLine), (112, 0, m_Pa_fail), (135, 0, m_Pa_expression), (141, 0, m_Pa_condition), (153, 0, m_Pa_readNumber), (156, 0, m_Pa_expect), (168, 0, m_Pa_check), (173, 0, m_Pa_emit), (176, 0, m_Pa_expectComparison), (179, 0, m_Pa_unit), (182, 0, m_Pa_part), (30, 5, m_Mi_init)]
  | 5 => [(38, 0, m_Pl_leftOf), (64, 0, m_Pl_isAble), (24, 5, m_Mk_init)]
  | 6 => [(57, 0, m_Se_takingsOf), (61, 0, m_Se_priceAll), (65, 0, m_Se_setFloors), (68, 0, m_Pl_canSee), (89, 0, m_Su_clear), (103, 0, m_Pl_leftOf), (110, 0, m_Pl_wearOf), (113, 0, m_Mi_priceBy), (127, 0, m_Se_walk), (131, 0, m_Se_arrive), (135, 0, m_Mk_takenFor), (142, 0, m_Pl_rootsOf), (48, 4, m_Gp_markAt)]
  | 7 => [(46, 0, m_Sk_anyFound), (50, 0, m_Sk_fitsAll), (54, 0, m_Sk_fits), (66, 0, m_Sk_isPlace), (70, 1, m_Sk_isAbout)]
  | 8 => [(20, 0, m_Su_step), (24, 1, m_Su_join)]
  | 9 => [(26, 4, m_Gp_placesTakenRight)]
  | 10 => [(25, 0, m_Br_foldsBy), (29, 1, m_Wi_rankOf), (33, 0, m_Wi_insert), (37, 0, m_Br_heightFor), (41, 0, m_Su_clear), (49, 1, m_Wi_isPrime), (52, 0, m_Br_edges), (60, 0, m_Mi_rankBy)]
  | 11 => [(11, 2, m_Pl_init), (39, 2, m_Se_init), (48, 2, m_Ch_init), (86, 1, m_Gp_within), (115, 0, m_Pl_has), (119, 1, m_Gp_tellNeeds), (123, 1, m_Gp_tellKnows), (127, 1, m_Gp_tellFirst), (130, 1, m_Gp_tellSecond), (142, 1, m_Gp_canBeOther), (156, 0, m_Pl_leftOf), (160, 0, m_Pl_wearOf), (163, 0, m_Pl_chainOf), (174, 0, m_Gp_inMessage), (177, 1, m_Gp_markAt), (182, 0, m_Pa_addBytes), (186, 1, m_Gp_isMind), (189, 0, m_Pa_forget), (192, 0, m_Pa_scan), (195, 0, m_Pa_readsText), (212, 0, m_Se_setUp), (216, 0, m_Se_countUpTo), (219, 0, m_Gp_findCheapest), (223, 0, m_Se_cheapestTaking), (229, 0, m_Se_partingPlace), (233, 0, m_Se_fallsFrom), (236, 0, m_Se_findCheapest), (238, 0, m_Pl_all), (241, 0, m_Pl_rights), (245, 0, m_Br_append), (249, 0, m_Wi_order), (259, 0, m_Br_foldsBy), (266, 0, m_Br_agreements), (270, 0, m_Br_isHalf), (275, 0, m_Sk_add), (280, 0, m_Sk_has), (290, 0, m_Sk_countYears), (302, 0, m_Sk_countPlaces), (312, 0, m_Pl_thingsOf), (315, 0, m_Ch_findBest), (325, 0, m_Gp_countTold), (329, 1, m_Ji_bitCount), (334, 0, m_Gp_othersAreThere), (337, 0, m_Tr_add), (340, 1, m_Gp_takingAt), (343, 0, m_Mk_takenFor), (354, 0, m_Se_cheapestPacked), (360, 0, m_Tr_rightPlaces), (363, 1, m_Gp_placesTakenRight), (366, 0, m_Gp_marksAtPlaces), (14, 5, m_Mi_init), (17, 5, m_Su_init), (32, 5, m_Pa_init), (57, 5, m_Br_init), (67, 5, m_Wi_init), (74, 5, m_Sk_init), (81, 5, m_Tr_init)]
  | 12 => [(156, 1, m_Rf_isIn), (160, 0, m_Rf_isMark), (167, 0, m_Rf_depth), (171, 0, m_Rf_left), (176, 0, m_Rf_chain), (179, 0, m_Rf_isWorn), (194, 0, m_Js_length), (200, 0, m_Js_charAt), (206, 0, m_Rf_is), (250, 0, m_Rf_name), (253, 0, m_Rf_see), (259, 1, m_Rf_isLetter), (262, 0, m_Rf_word), (265, 1, m_Rf_isDigit), (277, 0, m_Rf_bad), (280, 0, m_Rf_next0), (288, 0, m_Rf_product), (292, 0, m_Rf_lay), (296, 0, m_Rf_unit), (299, 0, m_Rf_number), (303, 0, m_Rf_every), (306, 0, m_Rf_one), (309, 0, m_Rf_opens), (312, 0, m_Rf_any), (315, 0, m_Rf_need), (318, 0, m_Rf_sumUp), (321, 0, m_Rf_aPrice), (324, 0, m_Rf_isMind), (330, 0, m_Rf_aLine), (333, 0, m_Rf_takesMind), (336, 1, m_Rf_both), (340, 0, m_Rf_comesTo), (346, 0, m_Rf_priceNow), (349, 0, m_Rf_canSee), (352, 0, m_Rf_thing), (364, 0, m_Rf_canTake), (367, 0, m_Rf_isTwice), (370, 0, m_Rf_goesOn), (374, 0, m_Rf_laysPrices), (378, 0, m_Rf_seeks), (381, 0, m_Rf_allNeeds), (384, 0, m_Rf_isAlone), (393, 0, m_Rf_laidAt), (397, 1, m_Rf_isPrime), (400, 0, m_Rf_edges), (405, 0, m_Rf_isWidth), (408, 0, m_Rf_triedAs), (411, 0, m_Rf_findsWidths), (418, 0, m_Rf_isBeat), (424, 0, m_Rf_isThen), (427, 1, m_Rf_distance), (431, 0, m_Rf_toldBy), (434, 1, m_Rf_count), (437, 0, m_Rf_worth), (441, 0, m_Rf_costOfSet), (444, 0, m_Rf_allMarks), (450, 0, m_Rf_cheapestNow), (453, 0, m_Rf_isOfThis)]
  | 13 => [(9, 2, m_Gp_init), (12, 2, m_Rf_init), (13, 0, m_Gp_mark), (17, 0, m_Rf_mark), (18, 0, m_Gp_tell), (22, 0, m_Rf_tell), (23, 0, m_Gp_hard), (27, 0, m_Rf_hard), (28, 0, m_Gp_year), (32, 0, m_Rf_year), (33, 0, m_Gp_of), (37, 0, m_Rf_of), (38, 0, m_Gp_put), (42, 0, m_Rf_put), (43, 0, m_Gp_feed), (46, 0, m_Rf_feed), (47, 0, m_Gp_end), (50, 0, m_Rf_end), (51, 0, m_Gp_mind), (54, 0, m_Rf_mind), (55, 0, m_Gp_fault), (58, 0, m_Rf_fault), (59, 0, m_Gp_readings), (62, 0, m_Rf_readings), (63, 0, m_Gp_cheapest), (66, 0, m_Rf_cheapest), (67, 0, m_Gp_alone), (70, 0, m_Rf_alone), (71, 0, m_Gp_bits), (74, 0, m_Rf_bits), (75, 0, m_Gp_grid), (78, 0, m_Rf_grid), (79, 0, m_Gp_widths), (82, 0, m_Rf_widths), (83, 0, m_Gp_laid), (87, 0, m_Rf_laid), (88, 0, m_Gp_beat), (92, 0, m_Rf_beat), (93, 0, m_Gp_found), (96, 0, m_Rf_found), (97, 0, m_Gp_far), (100, 0, m_Rf_far), (101, 0, m_Gp_years), (104, 0, m_Rf_years), (105, 0, m_Gp_places), (108, 0, m_Rf_places), (109, 0, m_Gp_told), (112, 0, m_Rf_told), (113, 0, m_Gp_best), (116, 0, m_Rf_best), (117, 0, m_Gp_never), (120, 0, m_Rf_never), (121, 0, m_Gp_deeper), (124, 0, m_Rf_deeper), (125, 0, m_Gp_trial), (128, 0, m_Rf_trial), (129, 0, m_Gp_agrees), (132, 0, m_Rf_agrees), (133, 0, m_Gp_ours), (136, 0, m_Rf_ours), (137, 0, m_Gp_look), (140, 0, m_Rf_look)]
  | 16 => [(335, 0, m_Js_coder), (492, 0, m_Js_isLatin1), (495, 1, m_Jl_charAt), (505, 0, m_Js_length), (633, 0, m_Js_indexOf_d33), (637, 1, m_Jl_indexOf), (1059, 1, m_Jp_checkIndex), (1062, 1, m_Jp_checkFromToIndex)]
  | 17 => [(9, 1, m_Js_checkIndex), (88, 1, m_Jl_canEncode), (95, 1, m_Jl_indexOfChar)]
  | _ => []
def gp_xl : Nat → List (Nat × Nat) := fun k => match k with
  | 1 => [(35, 1)]
  | 3 => [(62, 1), (68, 0)]
  | 5 => [(45, 0), (57, 1)]
  | 6 => [(38, 1), (107, 0)]
  | 7 => [(73, 0)]
  | 10 => [(55, 2)]
  | 17 => [(38, 1), (92, 0)]
  | _ => []
def gp_ol : Nat → List (Nat × Nat) := fun k => match k with
  | 0 => [(3, 0)]
  | 1 => [(3, 0)]
  | 2 => [(3, 0)]
  | 3 => [(3, 0)]
  | 4 => [(3, 0)]
  | 5 => [(3, 0)]
  | 6 => [(3, 0)]
  | 7 => [(3, 0)]
  | 8 => [(1, 0)]
  | 9 => [(3, 0)]
  | 10 => [(1, 0)]
  | 11 => [(3, 0)]
  | 12 => [(1, 0)]
  | _ => []
def gp_nl : Nat → List (Nat × Nat) := fun k => match k with
  | 4 => [(28, 3)]
  | 5 => [(9, 2)]
  | 11 => [(9, 5), (12, 3), (15, 8), (30, 4), (37, 6), (46, 1), (55, 0), (65, 10), (72, 7), (79, 9)]
  | 13 => [(7, 11), (10, 12)]
  | _ => []
def gp_al : Nat → List (Nat × Nat) := fun k => match k with
  | 4 => [(28, 5)]
  | 5 => [(9, 4)]
  | 11 => [(12, 5)]
  | _ => []
def gp_kl : Nat → List (Nat × Int32) := fun k => match k with
  | 11 => [(155, -1000000), (274, 999999), (279, 9999999), (311, 65535)]
  | 12 => [(175, -1000000), (417, 999999), (421, 9999999), (430, 65535)]
  | 15 => [(265, 1431655765), (266, 858993459), (267, 252645135)]
  | _ => []
def gp_Ll : Nat → List (Nat × Int64) := fun k => match k with
  | 7 => [(58, 1000000)]
  | 12 => [(422, 1000000)]
  | _ => []
def gp_zl : Nat → List (Nat × Nat) := fun k => match k with
  | 16 => [(38, 0), (1053, 1)]
  | _ => []
def gp_vl : Nat → List (Nat × Nat) := fun k => match k with
  | 16 => [(9, 0), (15, 1)]
  | _ => []
def gp_sr : List (String × Nat × String) := [("GoldPlate$Parser", 70, ";+-*/()<=>"), ("GoldPlate$Parser", 77, "sense know twin price try when or and not "), ("GoldPlate$Parser", 83, "kind cost left worn other place twice bare width height prime edges far "), ("GoldPlateModel", 204, "kind"), ("GoldPlateModel", 210, "cost"), ("GoldPlateModel", 212, "left"), ("GoldPlateModel", 213, "worn"), ("GoldPlateModel", 215, "other"), ("GoldPlateModel", 216, "place"), ("GoldPlateModel", 218, "twice"), ("GoldPlateModel", 220, "bare"), ("GoldPlateModel", 222, "width"), ("GoldPlateModel", 224, "height"), ("GoldPlateModel", 226, "prime"), ("GoldPlateModel", 228, "edges"), ("GoldPlateModel", 230, "far"), ("GoldPlateModel", 232, "sense"), ("GoldPlateModel", 234, "know"), ("GoldPlateModel", 236, "twin"), ("GoldPlateModel", 238, "price"), ("GoldPlateModel", 240, "try"), ("GoldPlateModel", 242, "when"), ("GoldPlateModel", 244, "or"), ("GoldPlateModel", 246, "and"), ("GoldPlateModel", 248, "not")]
def gp_sl : Nat → List (Nat × Nat) := fun k => match k with
  | 4 => [(70, 0), (77, 1), (83, 2)]
  | 12 => [(204, 3), (210, 4), (212, 5), (213, 6), (215, 7), (216, 8), (218, 9), (220, 10), (222, 11), (224, 12), (226, 13), (228, 14), (230, 15), (232, 16), (234, 17), (236, 18), (238, 19), (240, 20), (242, 21), (244, 22), (246, 23), (248, 24)]
  | _ => []
def gp_sb : List (List Int32) := [[59, 43, 45, 42, 47, 40, 41, 60, 61, 62], [115, 101, 110, 115, 101, 32, 107, 110, 111, 119, 32, 116, 119, 105, 110, 32, 112, 114, 105, 99, 101, 32, 116, 114, 121, 32, 119, 104, 101, 110, 32, 111, 114, 32, 97, 110, 100, 32, 110, 111, 116, 32], [107, 105, 110, 100, 32, 99, 111, 115, 116, 32, 108, 101, 102, 116, 32, 119, 111, 114, 110, 32, 111, 116, 104, 101, 114, 32, 112, 108, 97, 99, 101, 32, 116, 119, 105, 99, 101, 32, 98, 97, 114, 101, 32, 119, 105, 100, 116, 104, 32, 104, 101, 105, 103, 104, 116, 32, 112, 114, 105, 109, 101, 32, 101, 100, 103, 101, 115, 32, 102, 97, 114, 32], [107, 105, 110, 100], [99, 111, 115, 116], [108, 101, 102, 116], [119, 111, 114, 110], [111, 116, 104, 101, 114], [112, 108, 97, 99, 101], [116, 119, 105, 99, 101], [98, 97, 114, 101], [119, 105, 100, 116, 104], [104, 101, 105, 103, 104, 116], [112, 114, 105, 109, 101], [101, 100, 103, 101, 115], [102, 97, 114], [115, 101, 110, 115, 101], [107, 110, 111, 119], [116, 119, 105, 110], [112, 114, 105, 99, 101], [116, 114, 121], [119, 104, 101, 110], [111, 114], [97, 110, 100], [110, 111, 116]]
def gp_nw : List (String × Nat × MethodName × String) := [("GoldPlate", 14, ⟨"GoldPlate$Mind", "<init>", "()V"⟩, "GoldPlate"), ("GoldPlate", 17, ⟨"GoldPlate$Sums", "<init>", "()V"⟩, "GoldPlate"), ("GoldPlate", 32, ⟨"GoldPlate$Parser", "<init>", "()V"⟩, "GoldPlate"), ("GoldPlate", 57, ⟨"GoldPlate$BitRow", "<init>", "()V"⟩, "GoldPlate"), ("GoldPlate", 67, ⟨"GoldPlate$Widths", "<init>", "()V"⟩, "GoldPlate"), ("GoldPlate", 74, ⟨"GoldPlate$Sky", "<init>", "()V"⟩, "GoldPlate"), ("GoldPlate", 81, ⟨"GoldPlate$Trials", "<init>", "()V"⟩, "GoldPlate"), ("GoldPlate$Parser", 30, ⟨"GoldPlate$Mind", "<init>", "()V"⟩, "GoldPlate"), ("GoldPlate$Plate", 24, ⟨"GoldPlate$Mark", "<init>", "()V"⟩, "GoldPlate"), ("GoldPlate$Search", 48, ⟨"GoldPlate", "markAt", "(JI)I"⟩, "GoldPlate"), ("GoldPlate$Trials", 26, ⟨"GoldPlate", "placesTakenRight", "(II)I"⟩, "GoldPlate")]
def gp_all : List gp_M := [m_Br_init, m_Br_append, m_Br_foldsBy, m_Br_edges, m_Br_placeOf, m_Br_agreements, m_Br_isHalf, m_Br_heightFor, m_Ch_init, m_Ch_findBest, m_Ch_ableMarks, m_Ch_grow, m_Ch_gains, m_Ch_judge, m_Ch_scoreOf, m_Mk_init, m_Mk_takenFor, m_Mi_init, m_Mi_clear, m_Mi_priceBy, m_Mi_rankBy, m_Pa_init, m_Pa_addBytes, m_Pa_forget, m_Pa_scan, m_Pa_scanRun, m_Pa_addToken, m_Pa_runEnd, m_Pa_isLetter, m_Pa_isDigit, m_Pa_numberOf, m_Pa_keyword, m_Pa_indexIn, m_Pa_standsAt, m_Pa_readsText, m_Pa_readLine, m_Pa_readNumber, m_Pa_condition, m_Pa_check, m_Pa_expectComparison, m_Pa_expression, m_Pa_unit, m_Pa_part, m_Pa_expect, m_Pa_kind, m_Pa_fail, m_Pa_emit, m_Pl_init, m_Pl_has, m_Pl_all, m_Pl_leftOf, m_Pl_wearOf, m_Pl_chainOf, m_Pl_rootsOf, m_Pl_canSee, m_Pl_isAble, m_Pl_rights, m_Pl_thingsOf, m_Se_init, m_Se_setUp, m_Se_takingsOf, m_Se_priceAll, m_Se_setFloors, m_Se_countUpTo, m_Se_findCheapest, m_Se_walk, m_Se_arrive, m_Se_cheapestTaking, m_Se_cheapestPacked, m_Se_partingPlace, m_Se_fallsFrom, m_Sk_init, m_Sk_add, m_Sk_has, m_Sk_countYears, m_Sk_anyFound, m_Sk_fitsAll, m_Sk_fits, m_Sk_countPlaces, m_Sk_isPlace, m_Sk_isAbout, m_Su_init, m_Su_clear, m_Su_work, m_Su_step, m_Su_join, m_Tr_init, m_Tr_add, m_Tr_rightPlaces, m_Wi_init, m_Wi_order, m_Wi_rankOf, m_Wi_isPrime, m_Wi_insert, m_Gp_init, m_Gp_mark, m_Gp_tell, m_Gp_tellNeeds, m_Gp_tellKnows, m_Gp_tellFirst, m_Gp_tellSecond, m_Gp_canBeOther, m_Gp_hard, m_Gp_year, m_Gp_of, m_Gp_put, m_Gp_inMessage, m_Gp_feed, m_Gp_end, m_Gp_mind, m_Gp_fault, m_Gp_readings, m_Gp_cheapest, m_Gp_findCheapest, m_Gp_alone, m_Gp_bits, m_Gp_grid, m_Gp_widths, m_Gp_laid, m_Gp_beat, m_Gp_found, m_Gp_far, m_Gp_years, m_Gp_places, m_Gp_told, m_Gp_best, m_Gp_never, m_Gp_deeper, m_Gp_countTold, m_Gp_trial, m_Gp_othersAreThere, m_Gp_agrees, m_Gp_ours, m_Gp_marksAtPlaces, m_Gp_look, m_Gp_within, m_Gp_isMind, m_Gp_markAt, m_Gp_takingAt, m_Gp_placesTakenRight, m_Rf_init, m_Rf_isIn, m_Rf_count, m_Rf_isMark, m_Rf_mark, m_Rf_tell, m_Rf_hard, m_Rf_year, m_Rf_depth, m_Rf_left, m_Rf_isWorn, m_Rf_chain, m_Rf_of, m_Rf_put, m_Rf_feed, m_Rf_end, m_Rf_see, m_Rf_isLetter, m_Rf_isDigit, m_Rf_is, m_Rf_name, m_Rf_word, m_Rf_next0, m_Rf_bad, m_Rf_need, m_Rf_number, m_Rf_lay, m_Rf_opens, m_Rf_sumUp, m_Rf_product, m_Rf_unit, m_Rf_any, m_Rf_every, m_Rf_one, m_Rf_aPrice, m_Rf_aLine, m_Rf_takesMind, m_Rf_isMind, m_Rf_mind, m_Rf_fault, m_Rf_both, m_Rf_comesTo, m_Rf_priceNow, m_Rf_canSee, m_Rf_thing, m_Rf_laysPrices, m_Rf_canTake, m_Rf_isTwice, m_Rf_goesOn, m_Rf_readings, m_Rf_seeks, m_Rf_allNeeds, m_Rf_cheapest, m_Rf_isAlone, m_Rf_alone, m_Rf_bits, m_Rf_grid, m_Rf_isWidth, m_Rf_laidAt, m_Rf_isPrime, m_Rf_edges, m_Rf_triedAs, m_Rf_findsWidths, m_Rf_widths, m_Rf_laid, m_Rf_isBeat, m_Rf_beat, m_Rf_found, m_Rf_far, m_Rf_isThen, m_Rf_years, m_Rf_distance, m_Rf_places, m_Rf_toldBy, m_Rf_told, m_Rf_costOfSet, m_Rf_worth, m_Rf_best, m_Rf_allMarks, m_Rf_never, m_Rf_deeper, m_Rf_trial, m_Rf_cheapestNow, m_Rf_agrees, m_Rf_isOfThis, m_Rf_ours, m_Rf_look, m_Ji_bitCount, m_Jm_abs, m_Jm_max, m_Jm_min, m_Js_length, m_Js_charAt, m_Js_indexOf, m_Js_indexOf_d33, m_Js_coder, m_Js_isLatin1, m_Js_checkIndex, m_Js_checkBoundsBeginEnd, m_Jl_charAt, m_Jl_canEncode, m_Jl_indexOf, m_Jl_indexOfChar, m_Jp_checkIndex, m_Jp_checkFromToIndex]
end
section
/-! ===== a small machine over numbered cells: its states, its steps ===== -/
abbrev gp_E : Type := (Nat × vp_A) ⊕ (Nat × List Value)
abbrev gp_H : Type := List gp_E
/-- the address of cell 0; classes and slots; the class of each kind of array; the addresses of String constants -/
abbrev gp_G : Type := Nat × va_G × (Nat → ClassId) × (Nat → Nat)
def gp_mv (G : gp_G) : Value → Value
  | .ref a => .ref (G.1 + a)
  | .retAddr i => .ref (G.2.2.2 i)
  | .int x => .int x
  | .long x => .long x
  | .float x => .float x
  | .double x => .double x
  | .null => .null
def gp_ce (G : gp_G) : gp_E → va_E
  | .inl (t, n, .inl f) => .inl (G.2.2.1 t, n, .inl f)
  | .inl (t, n, .inr (.inl f)) => .inl (G.2.2.1 t, n, .inr (.inl f))
  | .inl (t, n, .inr (.inr (.inl f))) => .inl (G.2.2.1 t, n, .inr (.inr (.inl f)))
  | .inl (t, n, .inr (.inr (.inr (.inl f)))) => .inl (G.2.2.1 t, n, .inr (.inr (.inr (.inl f))))
  | .inl (t, n, .inr (.inr (.inr (.inr f)))) => .inl (G.2.2.1 t, n, .inr (.inr (.inr (.inr (fun j => (f j).map (fun a => G.1 + a))))))
  | .inr (c, fs) => .inr (c, fs.map (gp_mv G))
def gp_cc (G : gp_G) (V : gp_H) : va_W := V.mapIdx (fun k e => (G.1 + k, gp_ce G e))
def gp_tl (G : gp_G) : List (ClassId × FieldType) := [(G.2.2.1 0, .int), (G.2.2.1 1, .byte), (G.2.2.1 2, .boolean), (G.2.2.1 3, .long), (G.2.2.1 4, .object "GoldPlate$Mark"), (G.2.2.1 5, .object "GoldPlate$Mind")]
def gp_A (G : gp_G) : Nat → Prop := fun q => G.1 ≤ q
theorem gp_cc_at {G : gp_G} {V : gp_H} {k : Nat} {e : gp_E} (h : V[k]? = some e) : (gp_cc G V)[k]? = some (G.1 + k, gp_ce G e) := by
  simp [gp_cc, h]
theorem gp_cc_len (G : gp_G) (V : gp_H) : (gp_cc G V).length = V.length := by simp [gp_cc]
theorem gp_cc_set {G : gp_G} {V : gp_H} {k : Nat} {e : gp_E} : (gp_cc G V).set k (G.1 + k, gp_ce G e) = gp_cc G (V.set k e) := by
  apply List.ext_getElem?
  intro i
  simp only [gp_cc, List.getElem?_set, List.getElem?_mapIdx, List.length_mapIdx]
  by_cases hk : k = i
  · subst hk
    simp only [if_true]
    split <;> simp_all
  · simp [hk]
theorem gp_cc_push {G : gp_G} {V : gp_H} {e : gp_E} : gp_cc G V ++ [(G.1 + V.length, gp_ce G e)] = gp_cc G (V ++ [e]) := by
  simp [gp_cc, List.mapIdx_append]
theorem gp_cc_D (G : gp_G) (V : gp_H) : va_D (gp_A G) (gp_cc G V) := by
  have key : ∀ (k : Nat) (q : Nat × va_E), (gp_cc G V)[k]? = some q → q.1 = G.1 + k := by
    intro k q h
    simp only [gp_cc, List.getElem?_mapIdx, Option.map_eq_some_iff] at h
    obtain ⟨e, -, rfl⟩ := h
    rfl
  refine ⟨fun i j p q hi hj e => ?_, fun k q hk => ?_⟩
  · rw [key i p hi, key j q hj] at e
    omega
  · show G.1 ≤ q.1
    rw [key k q hk]
    omega
/-! locals -/
def gp_gl : List (Option Value) → Nat → Option Value
  | [], _ => none
  | v :: _, 0 => v
  | _ :: t, n + 1 => gp_gl t n
def gp_k1 : Option Value → Option Value
  | some (.long _) => none
  | some (.double _) => none
  | x => x
def gp_s1 : List (Option Value) → Nat → Value → List (Option Value)
  | [], _, _ => []
  | _ :: t, 0, v => some v :: t
  | a :: t, 1, v => gp_k1 a :: gp_s1 t 0 v
  | a :: t, n + 2, v => a :: gp_s1 t (n + 1) v
def gp_s2 : List (Option Value) → Nat → Value → List (Option Value)
  | [], _, _ => []
  | [_], 0, _ => [none]
  | _ :: _ :: t, 0, v => some v :: none :: t
  | a :: t, 1, v => gp_k1 a :: gp_s2 t 0 v
  | a :: t, n + 2, v => a :: gp_s2 t (n + 1) v
def gp_lt : List (Option Value) → Nat → Bool
  | [], _ => false
  | _ :: _, 0 => true
  | _ :: t, n + 1 => gp_lt t n
theorem gp_lt_e : ∀ {ls : List (Option Value)} {n : Nat}, gp_lt ls n = true → n < ls.length
  | [], _, h => by simp [gp_lt] at h
  | _ :: _, 0, _ => by simp
  | _ :: t, n + 1, h => by
    have := gp_lt_e (ls := t) (n := n) h
    simp; omega
theorem gp_k1_e {a : Option Value} {w : Value} (h : gp_k1 a = some w) : a = some w ∧ w.category = 1 := by
  unfold gp_k1 at h
  split at h
  · cases h
  · cases h
  · rename_i x h1 h2
    subst h
    refine ⟨rfl, ?_⟩
    cases w <;> first | rfl | exact absurd rfl (h1 _) | exact absurd rfl (h2 _)
theorem gp_s1_e : ∀ {ls : List (Option Value)} {i : Nat} {v w : Value} {j : Nat}, gp_gl (gp_s1 ls i v) j = some w → (j = i ∧ w = v) ∨ (j ≠ i ∧ gp_gl ls j = some w ∧ (j + 1 = i → w.category = 1))
  | [], i, v, w, j, h => by simp [gp_s1, gp_gl] at h
  | _ :: t, 0, v, w, 0, h => by
    simp only [gp_s1, gp_gl, Option.some.injEq] at h
    exact Or.inl ⟨rfl, h.symm⟩
  | _ :: t, 0, v, w, j + 1, h => Or.inr ⟨by omega, h, fun e => by omega⟩
  | a :: t, 1, v, w, 0, h => by
    simp only [gp_s1, gp_gl] at h
    obtain ⟨h1, h2⟩ := gp_k1_e h
    exact Or.inr ⟨by omega, h1, fun _ => h2⟩
  | a :: t, 1, v, w, j + 1, h => by
    simp only [gp_s1, gp_gl] at h
    rcases gp_s1_e (ls := t) (i := 0) h with ⟨h1, h2⟩ | ⟨h1, h2, h3⟩
    · exact Or.inl ⟨by omega, h2⟩
    · exact Or.inr ⟨by omega, h2, fun e => by omega⟩
  | a :: t, n + 2, v, w, 0, h => Or.inr ⟨by omega, h, fun e => by omega⟩
  | a :: t, n + 2, v, w, j + 1, h => by
    simp only [gp_s1, gp_gl] at h
    rcases gp_s1_e (ls := t) (i := n + 1) h with ⟨h1, h2⟩ | ⟨h1, h2, h3⟩
    · exact Or.inl ⟨by omega, h2⟩
    · exact Or.inr ⟨by omega, h2, fun e => h3 (by omega)⟩
theorem gp_s2_e : ∀ {ls : List (Option Value)} {i : Nat} {v w : Value} {j : Nat}, gp_gl (gp_s2 ls i v) j = some w → (j = i ∧ w = v) ∨ (j ≠ i ∧ j ≠ i + 1 ∧ gp_gl ls j = some w ∧ (j + 1 = i → w.category = 1))
  | [], i, v, w, j, h => by simp [gp_s2, gp_gl] at h
  | [a], 0, v, w, 0, h => by simp [gp_s2, gp_gl] at h
  | [a], 0, v, w, j + 1, h => by simp [gp_s2, gp_gl] at h
  | _ :: _ :: t, 0, v, w, 0, h => by
    simp only [gp_s2, gp_gl, Option.some.injEq] at h
    exact Or.inl ⟨rfl, h.symm⟩
  | _ :: _ :: t, 0, v, w, 1, h => by simp [gp_s2, gp_gl] at h
  | _ :: _ :: t, 0, v, w, j + 2, h => Or.inr ⟨by omega, by omega, h, fun e => by omega⟩
  | a :: t, 1, v, w, 0, h => by
    have h : gp_k1 a = some w := by
      cases t <;> simpa only [gp_s2, gp_gl] using h
    obtain ⟨h1, h2⟩ := gp_k1_e h
    exact Or.inr ⟨by omega, by omega, h1, fun _ => h2⟩
  | a :: t, 1, v, w, j + 1, h => by
    have h : gp_gl (gp_s2 t 0 v) j = some w := by
      cases t <;> simpa only [gp_s2, gp_gl] using h
    rcases gp_s2_e (ls := t) (i := 0) h with ⟨h1, h2⟩ | ⟨h1, h1', h2, h3⟩
    · exact Or.inl ⟨by omega, h2⟩
    · exact Or.inr ⟨by omega, by omega, h2, fun e => by omega⟩
  | a :: t, n + 2, v, w, 0, h => by
    have h : a = some w := by cases t <;> simpa only [gp_s2, gp_gl] using h
    exact Or.inr ⟨by omega, by omega, h, fun e => by omega⟩
  | a :: t, n + 2, v, w, j + 1, h => by
    have h : gp_gl (gp_s2 t (n + 1) v) j = some w := by
      cases t <;> simpa only [gp_s2, gp_gl] using h
    rcases gp_s2_e (ls := t) (i := n + 1) h with ⟨h1, h2⟩ | ⟨h1, h1', h2, h3⟩
    · exact Or.inl ⟨by omega, h2⟩
    · exact Or.inr ⟨by omega, by omega, h2, fun e => h3 (by omega)⟩
theorem gp_s1_len : ∀ (ls : List (Option Value)) (i : Nat) (v : Value), (gp_s1 ls i v).length = ls.length
  | [], _, _ => rfl
  | _ :: t, 0, v => rfl
  | a :: t, 1, v => by simp only [gp_s1, List.length_cons, gp_s1_len t 0 v]
  | a :: t, n + 2, v => by simp only [gp_s1, List.length_cons, gp_s1_len t (n + 1) v]
theorem gp_s2_len : ∀ (ls : List (Option Value)) (i : Nat) (v : Value), (gp_s2 ls i v).length = ls.length
  | [], _, _ => by simp [gp_s2]
  | [_], 0, _ => by simp [gp_s2]
  | _ :: _ :: t, 0, v => by simp [gp_s2]
  | a :: t, 1, v => by
    have e : gp_s2 (a :: t) 1 v = gp_k1 a :: gp_s2 t 0 v := by cases t <;> rfl
    rw [e, List.length_cons, List.length_cons, gp_s2_len t 0 v]
  | a :: t, n + 2, v => by
    have e : gp_s2 (a :: t) (n + 2) v = a :: gp_s2 t (n + 1) v := by cases t <;> rfl
    rw [e, List.length_cons, List.length_cons, gp_s2_len t (n + 1) v]
theorem gp_mv_cat (G : gp_G) (v : Value) : (gp_mv G v).category = v.category := by cases v <;> rfl
/-- the machine's locals hold ours -/
def gp_lr (G : gp_G) (la : Array Slot) (nL : Nat) (ls : List (Option Value)) : Prop := la.size = nL ∧ lv_wf la ∧ ls.length = nL ∧ ∀ (i : Nat) (v : Value), gp_gl ls i = some v → la[i]? = some (.val (gp_mv G v))
def gp_pl (G : gp_G) (nL : Nat) (ls : List (Option Value)) : List (Nat × Value) := (List.range nL).filterMap (fun i => (gp_gl ls i).map (fun v => (i, gp_mv G v)))
theorem gp_pl_mem {G : gp_G} {nL : Nat} {ls : List (Option Value)} {i : Nat} {v : Value} (hi : i < nL) (h : gp_gl ls i = some v) : (i, gp_mv G v) ∈ gp_pl G nL ls := by
  unfold gp_pl
  rw [List.mem_filterMap]
  exact ⟨i, List.mem_range.mpr hi, by simp [h]⟩
theorem gp_lr.has {G : gp_G} {la : Array Slot} {nL : Nat} {ls : List (Option Value)} (h : gp_lr G la nL ls) : lv_has la nL (gp_pl G nL ls) := by
  refine ⟨h.1, h.2.1, fun q hq => ?_⟩
  unfold gp_pl at hq
  rw [List.mem_filterMap] at hq
  obtain ⟨i, -, hi⟩ := hq
  rw [Option.map_eq_some_iff] at hi
  obtain ⟨v, h1, rfl⟩ := hi
  exact h.2.2.2 i v h1
theorem gp_lr.st1 {G : gp_G} {la la' : Array Slot} {nL : Nat} {ls : List (Option Value)} {i : Nat} {v : Value} (h : gp_lr G la nL ls) (h' : lv_has la' nL ((i, gp_mv G v) :: (gp_pl G nL ls).filter (fun q => !(q.1 == i) && !(q.1 + 1 == i && q.2.category == 2)))) : gp_lr G la' nL (gp_s1 ls i v) := by
  refine ⟨h'.1, h'.2.1, by rw [gp_s1_len]; exact h.2.2.1, fun j w hw => ?_⟩
  rcases gp_s1_e hw with ⟨rfl, rfl⟩ | ⟨h1, h2, h3⟩
  · exact h'.2.2 (j, gp_mv G w) List.mem_cons_self
  · have hj : j < nL := by
      have := lv_lt (h.2.2.2 j w h2)
      rw [h.1] at this; exact this
    refine h'.2.2 (j, gp_mv G w) (List.mem_cons_of_mem _ (List.mem_filter.mpr ⟨gp_pl_mem hj h2, ?_⟩))
    simp only [gp_mv_cat, Bool.and_eq_true, Bool.not_eq_true', beq_eq_false_iff_ne, ne_eq, Bool.and_eq_false_iff]
    refine ⟨h1, ?_⟩
    by_cases e : j + 1 = i
    · right; rw [h3 e]; decide
    · left; exact e
theorem gp_lr.st2 {G : gp_G} {la la' : Array Slot} {nL : Nat} {ls : List (Option Value)} {i : Nat} {v : Value} (h : gp_lr G la nL ls) (h' : lv_has la' nL ((i, gp_mv G v) :: (gp_pl G nL ls).filter (fun q => !(q.1 == i) && (!(q.1 == i + 1) && !(q.1 + 1 == i && q.2.category == 2))))) : gp_lr G la' nL (gp_s2 ls i v) := by
  refine ⟨h'.1, h'.2.1, by rw [gp_s2_len]; exact h.2.2.1, fun j w hw => ?_⟩
  rcases gp_s2_e hw with ⟨rfl, rfl⟩ | ⟨h1, h1', h2, h3⟩
  · exact h'.2.2 (j, gp_mv G w) List.mem_cons_self
  · have hj : j < nL := by
      have := lv_lt (h.2.2.2 j w h2)
      rw [h.1] at this; exact this
    refine h'.2.2 (j, gp_mv G w) (List.mem_cons_of_mem _ (List.mem_filter.mpr ⟨gp_pl_mem hj h2, ?_⟩))
    simp only [gp_mv_cat, Bool.and_eq_true, Bool.not_eq_true', beq_eq_false_iff_ne, ne_eq, Bool.and_eq_false_iff]
    refine ⟨h1, h1', ?_⟩
    by_cases e : j + 1 = i
    · right; rw [h3 e]; decide
    · left; exact e
end
section
/-! ===== the steps ===== -/
def gp_lk {α : Type} : List (Nat × α) → Nat → Option α
  | [], _ => none
  | (k, a) :: t, i => match Nat.beq k i with
    | true => some a
    | false => gp_lk t i
theorem gp_lk_mem {α : Type} : ∀ {t : List (Nat × α)} {i : Nat} {a : α}, gp_lk t i = some a → (i, a) ∈ t
  | [], _, _, h => by simp [gp_lk] at h
  | (k, b) :: t, i, a, h => by
    unfold gp_lk at h
    split at h
    · rename_i e
      have e := Nat.eq_of_beq_eq_true e
      cases h
      rw [e]
      exact List.mem_cons_self
    · exact List.mem_cons_of_mem _ (gp_lk_mem h)
def gp_nth {α : Type} : List α → Nat → Option α
  | [], _ => none
  | a :: _, 0 => some a
  | _ :: t, n + 1 => gp_nth t n
theorem gp_nth_e {α : Type} : ∀ (t : List α) (n : Nat), gp_nth t n = t[n]?
  | [], _ => by simp [gp_nth]
  | a :: _, 0 => by simp [gp_nth]
  | _ :: t, n + 1 => by simp only [gp_nth, List.getElem?_cons_succ]; exact gp_nth_e t n
abbrev gp_mc (M : gp_M) : Nat := M.2.2.2.2.1
abbrev gp_ms (M : gp_M) : Nat := M.2.2.2.2.2.1
abbrev gp_o (M : gp_M) : Nat := M.2.2.2.2.2.2.1
abbrev gp_np (M : gp_M) : Nat := M.2.2.2.2.2.2.2.1
abbrev gp_cd (M : gp_M) : List (Nat × Instr × Nat) := M.2.2.2.2.2.2.2.2
def gp_ws : List Cond := lw_tbl.filter goodWord
abbrev gp_wM (M : gp_M) : List Cond := Cond.code M.1 M.2.1 M.2.2.1 M.2.2.2.1 :: gp_ws
def gp_rm (d : Nat) (M : gp_M) : Room := { frames := d, cells := gp_mc M, slots := gp_ms M, locals := 64 * d }
def gp_sn : List Nat := gp_sb.map List.length
/-- what the Statement gives beside the words: nest mates, arrays of objects, String constants, two statics -/
def gp_N (G : gp_G) (U : State) (H : Heap) : Prop :=
  (∀ q ∈ gp_nw, va_Nw (.methodLinkNest q.1 q.2.1 q.2.2.1 q.2.2.2) U) ∧ va_AO "GoldPlate$Mark" U ∧ va_AO "GoldPlate$Mind" U ∧
  (∀ (i : Nat) (q : String × Nat × String), gp_sr[i]? = some q → vk_R q.1 q.2.1 q.2.2 (G.2.2.2 i) U) ∧
  vk_S 25 gp_sn gp_sb (fun i => G.2.2.2 i) (fun i => G.2.2.2 (1000 + i)) (gp_A G) U H ∧
  va_Z "java/lang/String" "COMPACT_STRINGS" "Z" (.int 1) (gp_A G) U H ∧
  (va_Z "jdk/internal/util/Preconditions" "SIOOBE_FORMATTER" "Ljava/util/function/BiFunction;" .null (gp_A G) U H ∨ va_Z "jdk/internal/util/Preconditions" "SIOOBE_FORMATTER" "Ljava/util/function/BiFunction;" (.ref (G.2.2.2 2000)) (gp_A G) U H)
def gp_Pre (G : gp_G) (as : List Value) (V : gp_H) : Array Value → State → Prop := va_Pc (as.map (gp_mv G)) (fun U => U.heap.size = G.1 + V.length ∧ va_P G.2.1 gp_cl (gp_cc G V) U.heap ∧ va_K G.2.1 gp_cl (gp_tl G) U ∧ gp_N G U U.heap)
def gp_Post (G : gp_G) (mc : Nat) (K : Option Value → gp_H → Prop) : Array Value → State → Outcome → State → Prop := fun _ st oc t =>
  (∃ (r : Option Value) (V : gp_H), oc = .returned (r.map (gp_mv G)) ∧ K r V ∧ t.heap.size = G.1 + V.length ∧ va_P G.2.1 gp_cl (gp_cc G V) t.heap) ∧ t.heap.size = st.heap.size + mc ∧ va_F (gp_A G) st t
/-- a method, called with these values in this heap, comes back with K -/
def gp_Cal (l : Launch) (G : gp_G) (d : Nat) (M : gp_M) (as : List Value) (V : gp_H) (K : Option Value → gp_H → Prop) : Prop :=
  Met l M.1 (gp_wM M) (gp_rm d M) (gp_Pre G as V) (gp_Post G (gp_mc M) K) (gp_mc M) (gp_ms M) (gp_A G)
theorem gp_Cal.mono {l : Launch} {G : gp_G} {d : Nat} {M : gp_M} {as : List Value} {V : gp_H} {K K' : Option Value → gp_H → Prop} (h : gp_Cal l G d M as V K) (hk : ∀ r V', K r V' → K' r V') : gp_Cal l G d M as V K' := by
  intro p e ha hc hcl s m args below hf hap hP hT
  obtain ⟨n, o, h1, h2, h3, ⟨⟨⟨r, V', e1, e2, e3, e4⟩, hz, hF⟩, hL⟩⟩ := h p e ha hc hcl s m args below hf hap hP hT
  exact ⟨n, o, h1, h2, h3, ⟨⟨r, V', e1, hk r V' e2, e3, e4⟩, hz, hF⟩, hL⟩
def gp_ln (a b : Nat) (P : Prop) : Prop := match Nat.beq a b with
  | true => P
  | false => False
theorem gp_ln_e {a b : Nat} {P : Prop} (h : gp_ln a b P) : a = b ∧ P := by
  unfold gp_ln at h
  split at h
  · rename_i e; exact ⟨Nat.eq_of_beq_eq_true e, h⟩
  · exact h.elim
def gp_bt (b : Bool) (P : Prop) : Prop := match b with
  | true => P
  | false => False
theorem gp_bt_e {b : Bool} {P : Prop} (h : gp_bt b P) : b = true ∧ P := by
  cases b
  · exact h.elim
  · exact ⟨rfl, h⟩
def gp_ldI (o : Option Value) (k : Int32 → Prop) : Prop := match o with
  | some (.int x) => k x
  | _ => False
theorem gp_ldI_e {o : Option Value} {k : Int32 → Prop} (h : gp_ldI o k) : ∃ x, o = some (.int x) ∧ k x := by
  unfold gp_ldI at h
  split at h
  · exact ⟨_, rfl, h⟩
  · exact h.elim
def gp_ldL (o : Option Value) (k : Int64 → Prop) : Prop := match o with
  | some (.long x) => k x
  | _ => False
theorem gp_ldL_e {o : Option Value} {k : Int64 → Prop} (h : gp_ldL o k) : ∃ x, o = some (.long x) ∧ k x := by
  unfold gp_ldL at h
  split at h
  · exact ⟨_, rfl, h⟩
  · exact h.elim
def gp_ldA (o : Option Value) (k : Value → Prop) : Prop := match o with
  | some (.ref x) => k (.ref x)
  | some (.retAddr x) => k (.retAddr x)
  | some .null => k .null
  | _ => False
theorem gp_ldA_e {G : gp_G} {o : Option Value} {k : Value → Prop} (h : gp_ldA o k) : ∃ v, o = some v ∧ (gp_mv G v = .null ∨ ∃ q, gp_mv G v = .ref q) ∧ k v := by
  unfold gp_ldA at h
  split at h
  · exact ⟨_, rfl, Or.inr ⟨_, rfl⟩, h⟩
  · exact ⟨_, rfl, Or.inr ⟨_, rfl⟩, h⟩
  · exact ⟨_, rfl, Or.inl rfl, h⟩
  · exact h.elim
def gp_p1 (st : List Value) (k : Int32 → List Value → Prop) : Prop := match st with
  | .int x :: r => k x r
  | _ => False
theorem gp_p1_e {st : List Value} {k : Int32 → List Value → Prop} (h : gp_p1 st k) : ∃ x r, st = .int x :: r ∧ k x r := by
  unfold gp_p1 at h
  split at h
  · exact ⟨_, _, rfl, h⟩
  · exact h.elim
def gp_p2 (st : List Value) (k : Int32 → Int32 → List Value → Prop) : Prop := match st with
  | .int y :: .int x :: r => k x y r
  | _ => False
theorem gp_p2_e {st : List Value} {k : Int32 → Int32 → List Value → Prop} (h : gp_p2 st k) : ∃ x y r, st = .int y :: .int x :: r ∧ k x y r := by
  unfold gp_p2 at h
  split at h
  · exact ⟨_, _, _, rfl, h⟩
  · exact h.elim
def gp_q1 (st : List Value) (k : Int64 → List Value → Prop) : Prop := match st with
  | .long x :: r => k x r
  | _ => False
theorem gp_q1_e {st : List Value} {k : Int64 → List Value → Prop} (h : gp_q1 st k) : ∃ x r, st = .long x :: r ∧ k x r := by
  unfold gp_q1 at h
  split at h
  · exact ⟨_, _, rfl, h⟩
  · exact h.elim
def gp_q2 (st : List Value) (k : Int64 → Int64 → List Value → Prop) : Prop := match st with
  | .long y :: .long x :: r => k x y r
  | _ => False
theorem gp_q2_e {st : List Value} {k : Int64 → Int64 → List Value → Prop} (h : gp_q2 st k) : ∃ x y r, st = .long y :: .long x :: r ∧ k x y r := by
  unfold gp_q2 at h
  split at h
  · exact ⟨_, _, _, rfl, h⟩
  · exact h.elim
def gp_qs (st : List Value) (k : Int64 → Int32 → List Value → Prop) : Prop := match st with
  | .int y :: .long x :: r => k x y r
  | _ => False
theorem gp_qs_e {st : List Value} {k : Int64 → Int32 → List Value → Prop} (h : gp_qs st k) : ∃ x y r, st = .int y :: .long x :: r ∧ k x y r := by
  unfold gp_qs at h
  split at h
  · exact ⟨_, _, _, rfl, h⟩
  · exact h.elim
def gp_pA (st : List Value) (k : Value → List Value → Prop) : Prop := match st with
  | .ref x :: r => k (.ref x) r
  | .retAddr x :: r => k (.retAddr x) r
  | _ => False
theorem gp_pA_e {st : List Value} {k : Value → List Value → Prop} (h : gp_pA st k) : ∃ v r, st = v :: r ∧ ((∃ q, v = .ref q) ∨ ∃ q, v = .retAddr q) ∧ k v r := by
  unfold gp_pA at h
  split at h
  · exact ⟨_, _, rfl, Or.inl ⟨_, rfl⟩, h⟩
  · exact ⟨_, _, rfl, Or.inr ⟨_, rfl⟩, h⟩
  · exact h.elim
def gp_j (pc : Nat) (off : Int) (k : Nat → Prop) : Prop := match (pc : Int) + off with
  | .ofNat t => k t
  | .negSucc _ => False
theorem gp_j_e {pc : Nat} {off : Int} {k : Nat → Prop} (h : gp_j pc off k) : ∃ t : Nat, (pc : Int) + off = (t : Int) ∧ k t := by
  unfold gp_j at h
  split at h
  · rename_i t e; exact ⟨t, e, h⟩
  · exact h.elim
def gp_b1 (c : Jvm.ClassFile.Cond) (x : Int32) (A B : Prop) : Prop := match c with
  | .eq => (x = 0 → A) ∧ (¬ x = 0 → B)
  | .ne => (¬ x = 0 → A) ∧ (x = 0 → B)
  | .lt => (x < 0 → A) ∧ (¬ x < 0 → B)
  | .ge => (0 ≤ x → A) ∧ (¬ 0 ≤ x → B)
  | .gt => (0 < x → A) ∧ (¬ 0 < x → B)
  | .le => (x ≤ 0 → A) ∧ (¬ x ≤ 0 → B)
def gp_b2 (c : Jvm.ClassFile.Cond) (x y : Int32) (A B : Prop) : Prop := match c with
  | .eq => (x = y → A) ∧ (¬ x = y → B)
  | .ne => (¬ x = y → A) ∧ (x = y → B)
  | .lt => (x < y → A) ∧ (¬ x < y → B)
  | .ge => (y ≤ x → A) ∧ (¬ y ≤ x → B)
  | .gt => (y < x → A) ∧ (¬ y < x → B)
  | .le => (x ≤ y → A) ∧ (¬ x ≤ y → B)
/-- the places of a switch, one behind the other -/
def gp_sw (pc : Nat) (k : Nat → Prop) (x : Int) : List Int → Int → Prop
  | [], _ => True
  | off :: t, c => (x = c → gp_j pc off k) ∧ gp_sw pc k x t (c + 1)
theorem gp_sw_e {pc : Nat} {k : Nat → Prop} {x : Int} : ∀ {l : List Int} {c : Int} {n : Nat} {off : Int}, gp_sw pc k x l c → l[n]? = some off → x = c + n → gp_j pc off k
  | [], _, _, _, _, h, _ => by simp at h
  | a :: t, c, 0, off, h, h1, h2 => by
    simp only [List.getElem?_cons_zero, Option.some.injEq] at h1
    subst h1
    exact h.1 (by simpa using h2)
  | a :: t, c, n + 1, off, h, h1, h2 => gp_sw_e (l := t) (c := c + 1) (n := n) h.2 (by simpa using h1) (by rw [h2]; push_cast; omega)
/-- the words that a stack takes -/
def gp_sz : List Value → Nat
  | [] => 0
  | .long _ :: t => gp_sz t + 2
  | .double _ :: t => gp_sz t + 2
  | _ :: t => gp_sz t + 1
theorem gp_sz_e (G : gp_G) : ∀ st : List Value, ((st.map (gp_mv G)).map fun v => v.category).sum = gp_sz st
  | [] => rfl
  | v :: t => by
    simp only [List.map_cons, List.sum_cons, gp_sz_e G t, gp_mv_cat]
    cases v <;> simp [gp_sz, Value.category] <;> omega
def gp_pop : Nat → List Value → List Value → Option (List Value × List Value)
  | 0, acc, st => some (acc, st)
  | _ + 1, _, [] => none
  | n + 1, acc, v :: st => gp_pop n (v :: acc) st
theorem gp_pop_e : ∀ {n : Nat} {acc st as rest : List Value}, gp_pop n acc st = some (as, rest) → ∃ xs : List Value, xs.length = n ∧ as = xs.reverse ++ acc ∧ st = xs ++ rest
  | 0, acc, st, as, rest, h => by
    simp only [gp_pop, Option.some.injEq, Prod.mk.injEq] at h
    exact ⟨[], rfl, by simp [h.1], by simp [h.2]⟩
  | n + 1, acc, [], as, rest, h => by simp [gp_pop] at h
  | n + 1, acc, v :: st, as, rest, h => by
    obtain ⟨xs, h1, h2, h3⟩ := gp_pop_e (n := n) h
    exact ⟨v :: xs, by simp [h1], by simp [h2], by simp [h3]⟩
theorem gp_pop_0 {n : Nat} {st as rest : List Value} (h : gp_pop n [] st = some (as, rest)) : as.length = n ∧ st = as.reverse ++ rest := by
  obtain ⟨xs, h1, h2, h3⟩ := gp_pop_e h
  simp only [List.append_nil] at h2
  subst h2
  exact ⟨by simp [h1], by simp [h3]⟩
abbrev gp_K : Type := Nat → List (Option Value) → List Value → gp_H → Nat → Nat → Prop
/-- the object at a virtual address, of a class -/
def gp_ob (V : gp_H) (a ci : Nat) (k : List Value → Prop) : Prop := match gp_nth V a with
  | some (.inr (c, fs)) => gp_ln c ci (k fs)
  | _ => False
theorem gp_ob_e {V : gp_H} {a ci : Nat} {k : List Value → Prop} (h : gp_ob V a ci k) : ∃ fs, V[a]? = some (.inr (ci, fs)) ∧ k fs := by
  unfold gp_ob at h
  split at h
  · rename_i c fs e
    obtain ⟨e2, h2⟩ := gp_ln_e h
    subst e2
    exact ⟨fs, by rw [← gp_nth_e]; exact e, h2⟩
  · exact h.elim
def gp_ai (V : gp_H) (a t : Nat) (k : Nat → (Nat → Int32) → Prop) : Prop := match gp_nth V a with
  | some (.inl (t', n, .inl f)) => gp_ln t' t (k n f)
  | _ => False
theorem gp_ai_e {V : gp_H} {a t : Nat} {k : Nat → (Nat → Int32) → Prop} (h : gp_ai V a t k) : ∃ n f, V[a]? = some (.inl (t, n, .inl f)) ∧ k n f := by
  unfold gp_ai at h
  split at h
  · rename_i c n f e
    obtain ⟨e2, h2⟩ := gp_ln_e h
    subst e2
    exact ⟨n, f, by rw [← gp_nth_e]; exact e, h2⟩
  · exact h.elim
/-- bytes or booleans -/
def gp_ab (V : gp_H) (a : Nat) (k : Nat → Nat → (Nat → Int32) → Prop) : Prop := match gp_nth V a with
  | some (.inl (1, n, .inl f)) => k 1 n f
  | some (.inl (2, n, .inl f)) => k 2 n f
  | _ => False
theorem gp_ab_e {V : gp_H} {a : Nat} {k : Nat → Nat → (Nat → Int32) → Prop} (h : gp_ab V a k) : ∃ t n f, (t = 1 ∨ t = 2) ∧ V[a]? = some (.inl (t, n, .inl f)) ∧ k t n f := by
  unfold gp_ab at h
  split at h
  · rename_i n f e; exact ⟨1, n, f, Or.inl rfl, by rw [← gp_nth_e]; exact e, h⟩
  · rename_i n f e; exact ⟨2, n, f, Or.inr rfl, by rw [← gp_nth_e]; exact e, h⟩
  · exact h.elim
def gp_al3 (V : gp_H) (a : Nat) (k : Nat → (Nat → Int64) → Prop) : Prop := match gp_nth V a with
  | some (.inl (3, n, .inr (.inl f))) => k n f
  | _ => False
theorem gp_al3_e {V : gp_H} {a : Nat} {k : Nat → (Nat → Int64) → Prop} (h : gp_al3 V a k) : ∃ n f, V[a]? = some (.inl (3, n, .inr (.inl f))) ∧ k n f := by
  unfold gp_al3 at h
  split at h
  · rename_i n f e; exact ⟨n, f, by rw [← gp_nth_e]; exact e, h⟩
  · exact h.elim
/-- arrays of marks (kind 4: class 2) or minds (kind 5: class 3) -/
def gp_aq (V : gp_H) (a : Nat) (k : Nat → Nat → (Nat → Option Nat) → Prop) : Prop := match gp_nth V a with
  | some (.inl (4, n, .inr (.inr (.inr (.inr f))))) => k 4 n f
  | some (.inl (5, n, .inr (.inr (.inr (.inr f))))) => k 5 n f
  | _ => False
theorem gp_aq_e {V : gp_H} {a : Nat} {k : Nat → Nat → (Nat → Option Nat) → Prop} (h : gp_aq V a k) : ∃ t n f, (t = 4 ∨ t = 5) ∧ V[a]? = some (.inl (t, n, .inr (.inr (.inr (.inr f))))) ∧ k t n f := by
  unfold gp_aq at h
  split at h
  · rename_i n f e; exact ⟨4, n, f, Or.inl rfl, by rw [← gp_nth_e]; exact e, h⟩
  · rename_i n f e; exact ⟨5, n, f, Or.inr rfl, by rw [← gp_nth_e]; exact e, h⟩
  · exact h.elim
def gp_an (V : gp_H) (a : Nat) (k : Nat → Prop) : Prop := match gp_nth V a with
  | some (.inl (t, n, _)) => gp_bt (Nat.blt t 6) (k n)
  | _ => False
theorem gp_an_e {V : gp_H} {a : Nat} {k : Nat → Prop} (h : gp_an V a k) : ∃ t n x, t < 6 ∧ V[a]? = some (.inl (t, n, x)) ∧ k n := by
  unfold gp_an at h
  split at h
  · rename_i t n x e
    obtain ⟨h1, h⟩ := gp_bt_e h
    exact ⟨t, n, x, Nat.blt_eq.mp h1, by rw [← gp_nth_e]; exact e, h⟩
  · exact h.elim
/-- what may be put into a field: 0 an int, 1 a boolean, 2 a long, 3 a reference -/
def gp_pv (t : Nat) (v : Value) (P : Prop) : Prop := match t, v with
  | 0, .int _ => P
  | 1, .int x => (x = 0 ∨ x = 1) ∧ P
  | 2, .long _ => P
  | 3, .ref _ => P
  | _, _ => False
def gp_row {α : Type} (o : Option α) (k : α → Prop) : Prop := match o with
  | some a => k a
  | none => False
theorem gp_row_e {α : Type} {o : Option α} {k : α → Prop} (h : gp_row o k) : ∃ a, o = some a ∧ k a := by
  cases o with
  | none => exact h.elim
  | some a => exact ⟨a, rfl, h⟩
/-- the call itself: a level less, little on the stack beneath, room for what is made -/
def gp_cl1 (l : Launch) (G : gp_G) (d : Nat) (M M' : gp_M) (as rest : List Value) (V : gp_H) (cs ss : Nat) (k : Option Value → gp_H → Nat → Nat → Prop) : Prop := match d with
  | 0 => False
  | d' + 1 => gp_bt (Nat.ble (gp_sz rest) 8) (match gp_mc M', gp_ms M' with
    | 0, 0 => gp_Cal l G d' M' as V (fun r V' => k r V' cs ss)
    | a, b => cs + a ≤ gp_mc M ∧ ss + b ≤ gp_ms M ∧ gp_Cal l G d' M' as V (fun r V' => k r V' (cs + a) (ss + b)))
theorem gp_cl1_e {l : Launch} {G : gp_G} {d : Nat} {M M' : gp_M} {as rest : List Value} {V : gp_H} {cs ss : Nat} {k : Option Value → gp_H → Nat → Nat → Prop} (hc : cs ≤ gp_mc M) (hs : ss ≤ gp_ms M) (h : gp_cl1 l G d M M' as rest V cs ss k) : ∃ d', d = d' + 1 ∧ gp_sz rest ≤ 8 ∧ cs + gp_mc M' ≤ gp_mc M ∧ ss + gp_ms M' ≤ gp_ms M ∧ gp_Cal l G d' M' as V (fun r V' => k r V' (cs + gp_mc M') (ss + gp_ms M')) := by
  unfold gp_cl1 at h
  split at h
  · exact h.elim
  · rename_i d'
    obtain ⟨h1, h⟩ := gp_bt_e h
    refine ⟨d', rfl, Nat.le_of_ble_eq_true h1, ?_⟩
    split at h
    · rename_i e1 e2
      rw [e1, e2]
      exact ⟨by omega, by omega, h⟩
    · exact h
/-- the receiver: a cell of the method's class, or a String constant -/
def gp_rc (V : gp_H) (o : Nat) (v : Value) (P : Prop) : Prop := match v with
  | .ref a => gp_ob V a o (fun _ => P)
  | .retAddr i => gp_ln o 16 (gp_bt (Nat.blt i 25) P)
  | _ => False
def gp_hd (as : List Value) (k : Value → Prop) : Prop := match as with
  | v :: _ => k v
  | [] => False
/-- the bytes of String constant i stand as 1000 + i -/
def gp_sx (i : Nat) : Bool := Nat.blt (i - 1000) 25 && Nat.ble 1000 i
def gp_sN (i : Nat) : Nat := gp_sn.getD (i - 1000) 0
def gp_sB (i j : Nat) : Int32 := (gp_sb.getD (i - 1000) []).getD j 0
theorem gp_sx_e {i : Nat} (h : gp_sx i = true) : i - 1000 < 25 ∧ 1000 + (i - 1000) = i := by
  simp only [gp_sx, Bool.and_eq_true, Nat.blt_eq, Nat.ble_eq] at h
  omega
def gp_step (l : Launch) (G : gp_G) (d : Nat) (M : gp_M) (K : Option Value → gp_H → Prop) (k : gp_K) (i : Instr) (len pc : Nat) (ls : List (Option Value)) (st : List Value) (V : gp_H) (cs ss : Nat) : Prop :=
  match i with
  | .iload_n n => gp_ln len 1 (gp_ldI (gp_gl ls n) fun x => k (pc + 1) ls (.int x :: st) V cs ss)
  | .iload n => gp_ln len 2 (gp_ldI (gp_gl ls n) fun x => k (pc + 2) ls (.int x :: st) V cs ss)
  | .lload_n n => gp_ln len 1 (gp_ldL (gp_gl ls n) fun x => k (pc + 1) ls (.long x :: st) V cs ss)
  | .lload n => gp_ln len 2 (gp_ldL (gp_gl ls n) fun x => k (pc + 2) ls (.long x :: st) V cs ss)
  | .aload_n n => gp_ln len 1 (gp_ldA (gp_gl ls n) fun v => k (pc + 1) ls (v :: st) V cs ss)
  | .aload n => gp_ln len 2 (gp_ldA (gp_gl ls n) fun v => k (pc + 2) ls (v :: st) V cs ss)
  | .istore_n n => gp_ln len 1 (gp_bt (gp_lt ls n) (gp_p1 st fun x r => k (pc + 1) (gp_s1 ls n (.int x)) r V cs ss))
  | .istore n => gp_ln len 2 (gp_bt (gp_lt ls n) (gp_p1 st fun x r => k (pc + 2) (gp_s1 ls n (.int x)) r V cs ss))
  | .lstore_n n => gp_ln len 1 (gp_bt (gp_lt ls (n + 1)) (gp_q1 st fun x r => k (pc + 1) (gp_s2 ls n (.long x)) r V cs ss))
  | .lstore n => gp_ln len 2 (gp_bt (gp_lt ls (n + 1)) (gp_q1 st fun x r => k (pc + 2) (gp_s2 ls n (.long x)) r V cs ss))
  | .astore_n n => gp_ln len 1 (gp_bt (gp_lt ls n) (gp_pA st fun v r => k (pc + 1) (gp_s1 ls n v) r V cs ss))
  | .astore n => gp_ln len 2 (gp_bt (gp_lt ls n) (gp_pA st fun v r => k (pc + 2) (gp_s1 ls n v) r V cs ss))
  | .iinc n c => gp_ln len 3 (gp_bt (gp_lt ls n) (gp_ldI (gp_gl ls n) fun x => k (pc + 3) (gp_s1 ls n (.int (x + Int32.ofInt c))) st V cs ss))
  | .iconst c => gp_ln len 1 (k (pc + 1) ls (.int (Int32.ofInt c) :: st) V cs ss)
  | .bipush c => gp_ln len 2 (k (pc + 2) ls (.int (Int8.ofInt c).toInt32 :: st) V cs ss)
  | .sipush c => gp_ln len 3 (k (pc + 3) ls (.int (Int16.ofInt c).toInt32 :: st) V cs ss)
  | .lconst c => gp_ln len 1 (k (pc + 1) ls (.long (Int64.ofNat (c : Nat)) :: st) V cs ss)
  | .ldc idx => gp_ln len 2 (match gp_lk (gp_sl (gp_o M)) idx with
    | some i => k (pc + 2) ls (.retAddr i :: st) V cs ss
    | none => gp_row (gp_lk (gp_kl (gp_o M)) idx) fun v => k (pc + 2) ls (.int v :: st) V cs ss)
  | .ldc_w idx => gp_ln len 3 (gp_row (gp_lk (gp_kl (gp_o M)) idx) fun v => k (pc + 3) ls (.int v :: st) V cs ss)
  | .ldc2_w idx => gp_ln len 3 (gp_row (gp_lk (gp_Ll (gp_o M)) idx) fun v => k (pc + 3) ls (.long v :: st) V cs ss)
  | .iadd => gp_ln len 1 (gp_p2 st fun x y r => k (pc + 1) ls (.int (x + y) :: r) V cs ss)
  | .isub => gp_ln len 1 (gp_p2 st fun x y r => k (pc + 1) ls (.int (x - y) :: r) V cs ss)
  | .imul => gp_ln len 1 (gp_p2 st fun x y r => k (pc + 1) ls (.int (x * y) :: r) V cs ss)
  | .idiv => gp_ln len 1 (gp_p2 st fun x y r => ¬ y = 0 ∧ k (pc + 1) ls (.int (x / y) :: r) V cs ss)
  | .irem => gp_ln len 1 (gp_p2 st fun x y r => ¬ y = 0 ∧ k (pc + 1) ls (.int (x - x / y * y) :: r) V cs ss)
  | .iand => gp_ln len 1 (gp_p2 st fun x y r => k (pc + 1) ls (.int (x &&& y) :: r) V cs ss)
  | .ior => gp_ln len 1 (gp_p2 st fun x y r => k (pc + 1) ls (.int (x ||| y) :: r) V cs ss)
  | .ixor => gp_ln len 1 (gp_p2 st fun x y r => k (pc + 1) ls (.int (x ^^^ y) :: r) V cs ss)
  | .ishl => gp_ln len 1 (gp_p2 st fun x y r => k (pc + 1) ls (.int (x <<< (y &&& 31)) :: r) V cs ss)
  | .ishr => gp_ln len 1 (gp_p2 st fun x y r => k (pc + 1) ls (.int (x >>> (y &&& 31)) :: r) V cs ss)
  | .iushr => gp_ln len 1 (gp_p2 st fun x y r => k (pc + 1) ls (.int (x.toUInt32 >>> (y.toUInt32 &&& Int32.toUInt32 31)).toInt32 :: r) V cs ss)
  | .ineg => gp_ln len 1 (gp_p1 st fun x r => k (pc + 1) ls (.int (-x) :: r) V cs ss)
  | .i2l => gp_ln len 1 (gp_p1 st fun x r => k (pc + 1) ls (.long x.toInt64 :: r) V cs ss)
  | .l2i => gp_ln len 1 (gp_q1 st fun x r => k (pc + 1) ls (.int x.toInt32 :: r) V cs ss)
  | .i2b => gp_ln len 1 (gp_p1 st fun x r => k (pc + 1) ls (.int x.toInt8.toInt32 :: r) V cs ss)
  | .i2c => gp_ln len 1 (gp_p1 st fun x r => k (pc + 1) ls (.int (x.toUInt32 % 65536).toInt32 :: r) V cs ss)
  | .ladd => gp_ln len 1 (gp_q2 st fun x y r => k (pc + 1) ls (.long (x + y) :: r) V cs ss)
  | .lmul => gp_ln len 1 (gp_q2 st fun x y r => k (pc + 1) ls (.long (x * y) :: r) V cs ss)
  | .lor => gp_ln len 1 (gp_q2 st fun x y r => k (pc + 1) ls (.long (x ||| y) :: r) V cs ss)
  | .ldiv => gp_ln len 1 (gp_q2 st fun x y r => ¬ y = 0 ∧ k (pc + 1) ls (.long (x / y) :: r) V cs ss)
  | .lcmp => gp_ln len 1 (gp_q2 st fun x y r => k (pc + 1) ls (.int (lg_cmp x y) :: r) V cs ss)
  | .lshl => gp_ln len 1 (gp_qs st fun x y r => k (pc + 1) ls (.long (x <<< (y.toInt64 &&& 63)) :: r) V cs ss)
  | .lushr => gp_ln len 1 (gp_qs st fun x y r => k (pc + 1) ls (.long (x.toUInt64 >>> (y.toInt64.toUInt64 &&& Int64.toUInt64 63)).toInt64 :: r) V cs ss)
  | .dup => gp_ln len 1 (match st with
    | v :: r => gp_ln (gp_sz [v]) 1 (k (pc + 1) ls (v :: v :: r) V cs ss)
    | _ => False)
  | .dup2 => gp_ln len 1 (match st with
    | v :: w :: r => gp_ln (gp_sz [v]) 1 (gp_ln (gp_sz [w]) 1 (k (pc + 1) ls (v :: w :: v :: w :: r) V cs ss))
    | _ => False)
  | .pop => gp_ln len 1 (match st with
    | v :: r => gp_ln (gp_sz [v]) 1 (k (pc + 1) ls r V cs ss)
    | _ => False)
  | .ifCond c off => gp_ln len 3 (gp_p1 st fun x r => gp_j pc off fun t => gp_b1 c x (k t ls r V cs ss) (k (pc + 3) ls r V cs ss))
  | .if_icmp c off => gp_ln len 3 (gp_p2 st fun x y r => gp_j pc off fun t => gp_b2 c x y (k t ls r V cs ss) (k (pc + 3) ls r V cs ss))
  | .goto off => gp_ln len 3 (gp_j pc off fun t => k t ls st V cs ss)
  | .tableswitch df lo hi offs => gp_p1 st fun x r => (x.toInt < lo ∨ hi < x.toInt → gp_j pc df fun t => k t ls r V cs ss) ∧ (hi - lo + 1 = offs.toList.length ∧ gp_sw pc (fun t => k t ls r V cs ss) x.toInt offs.toList lo)
  | .getfield idx => gp_ln len 3 (gp_pA st fun v r => match v with
    | .ref a => gp_row (gp_lk (gp_fl (gp_o M)) idx) fun q => gp_ob V a q.1 fun fs => gp_row (gp_nth fs q.2.1) fun w => k (pc + 3) ls (w :: r) V cs ss
    | .retAddr i => gp_bt (Nat.blt i 25) (gp_row (gp_lk (gp_vl (gp_o M)) idx) fun q => match q with
      | 0 => k (pc + 3) ls (.retAddr (1000 + i) :: r) V cs ss
      | 1 => k (pc + 3) ls (.int 0 :: r) V cs ss
      | _ => False)
    | _ => False)
  | .putfield idx => gp_ln len 3 (match st with
    | w :: .ref a :: r => gp_row (gp_lk (gp_fl (gp_o M)) idx) fun q => gp_ob V a q.1 fun fs => gp_bt (Nat.blt q.2.1 fs.length) (gp_pv q.2.2.1 w (match q.2.2.2 with
      | false => k (pc + 3) ls r (V.set a (.inr (q.1, fs.set q.2.1 w))) cs ss
      | true => M.1.name = "<init>" ∧ gp_ln q.1 (gp_o M) (k (pc + 3) ls r (V.set a (.inr (q.1, fs.set q.2.1 w))) cs ss)))
    | _ => False)
  | .getstatic idx => gp_ln len 3 (gp_row (gp_lk (gp_zl (gp_o M)) idx) fun q => match q with
    | 0 => k (pc + 3) ls (.int 1 :: st) V cs ss
    | 1 => k (pc + 3) ls (.null :: st) V cs ss ∧ k (pc + 3) ls (.retAddr 2000 :: st) V cs ss
    | _ => False)
  | .iaload => gp_ln len 1 (match st with
    | .int j :: .ref a :: r => gp_ai V a 0 fun n f => vp_in j n ∧ k (pc + 1) ls (.int (f j.toNatClampNeg) :: r) V cs ss
    | _ => False)
  | .iastore => gp_ln len 1 (match st with
    | .int x :: .int j :: .ref a :: r => gp_ai V a 0 fun n f => vp_in j n ∧ k (pc + 1) ls r (V.set a (.inl (0, n, .inl (upd f j.toNatClampNeg x)))) cs ss
    | _ => False)
  | .baload => gp_ln len 1 (match st with
    | .int j :: .ref a :: r => gp_ab V a fun _ n f => vp_in j n ∧ k (pc + 1) ls (.int (f j.toNatClampNeg) :: r) V cs ss
    | .int j :: .retAddr i :: r => gp_bt (gp_sx i) (vp_in j (gp_sN i) ∧ k (pc + 1) ls (.int (gp_sB i j.toNatClampNeg) :: r) V cs ss)
    | _ => False)
  | .bastore => gp_ln len 1 (match st with
    | .int x :: .int j :: .ref a :: r => gp_ab V a fun t n f => vp_in j n ∧ (match t with
      | 1 => k (pc + 1) ls r (V.set a (.inl (1, n, .inl (upd f j.toNatClampNeg (vp_nar .byte x))))) cs ss
      | _ => k (pc + 1) ls r (V.set a (.inl (2, n, .inl (upd f j.toNatClampNeg (vp_nar .boolean x))))) cs ss)
    | _ => False)
  | .laload => gp_ln len 1 (match st with
    | .int j :: .ref a :: r => gp_al3 V a fun n f => vp_in j n ∧ k (pc + 1) ls (.long (f j.toNatClampNeg) :: r) V cs ss
    | _ => False)
  | .lastore => gp_ln len 1 (match st with
    | .long x :: .int j :: .ref a :: r => gp_al3 V a fun n f => vp_in j n ∧ k (pc + 1) ls r (V.set a (.inl (3, n, .inr (.inl (vp_updL f j.toNatClampNeg x))))) cs ss
    | _ => False)
  | .aaload => gp_ln len 1 (match st with
    | .int j :: .ref a :: r => gp_aq V a fun _ n f => vp_in j n ∧ ∃ b, f j.toNatClampNeg = some b ∧ k (pc + 1) ls (.ref b :: r) V cs ss
    | _ => False)
  | .aastore => gp_ln len 1 (match st with
    | .ref b :: .int j :: .ref a :: r => gp_aq V a fun t n f => gp_ob V b (t - 2) fun _ => vp_in j n ∧ k (pc + 1) ls r (V.set a (.inl (t, n, .inr (.inr (.inr (.inr (va_up f j.toNatClampNeg (some b)))))))) cs ss
    | _ => False)
  | .arraylength => gp_ln len 1 (match st with
    | .ref a :: r => gp_an V a fun n => k (pc + 1) ls (.int (Int32.ofNat n) :: r) V cs ss
    | .retAddr i :: r => gp_bt (gp_sx i) (k (pc + 1) ls (.int (Int32.ofNat (gp_sN i)) :: r) V cs ss)
    | _ => False)
  | .newarray at' => gp_ln len 2 (gp_p1 st fun n r => ¬ n < 0 ∧ n.toNatClampNeg ≤ 60000000 ∧ cs + 1 ≤ gp_mc M ∧ ss + n.toNatClampNeg ≤ gp_ms M ∧ (match at' with
    | .int => k (pc + 2) ls (.ref V.length :: r) (V ++ [.inl (0, n.toNatClampNeg, .inl (fun _ => 0))]) (cs + 1) (ss + n.toNatClampNeg)
    | .byte => k (pc + 2) ls (.ref V.length :: r) (V ++ [.inl (1, n.toNatClampNeg, .inl (fun _ => 0))]) (cs + 1) (ss + n.toNatClampNeg)
    | .boolean => k (pc + 2) ls (.ref V.length :: r) (V ++ [.inl (2, n.toNatClampNeg, .inl (fun _ => 0))]) (cs + 1) (ss + n.toNatClampNeg)
    | .long => k (pc + 2) ls (.ref V.length :: r) (V ++ [.inl (3, n.toNatClampNeg, .inr (.inl (fun _ => 0)))]) (cs + 1) (ss + n.toNatClampNeg)
    | _ => False))
  | .anewarray idx => gp_ln len 3 (gp_p1 st fun n r => gp_row (gp_lk (gp_al (gp_o M)) idx) fun t => ¬ n < 0 ∧ n.toNatClampNeg ≤ 60000000 ∧ cs + 1 ≤ gp_mc M ∧ ss + n.toNatClampNeg ≤ gp_ms M ∧ k (pc + 3) ls (.ref V.length :: r) (V ++ [.inl (t, n.toNatClampNeg, .inr (.inr (.inr (.inr (fun _ => none)))))]) (cs + 1) (ss + n.toNatClampNeg))
  | .new idx => gp_ln len 3 (gp_row (gp_lk (gp_nl (gp_o M)) idx) fun ci => cs + 1 ≤ gp_mc M ∧ ss + (gp_df ci).length ≤ gp_ms M ∧ k (pc + 3) ls (.ref V.length :: st) (V ++ [.inr (ci, gp_df ci)]) (cs + 1) (ss + (gp_df ci).length))
  | .invokestatic idx => gp_ln len 3 (match gp_lk (gp_xl (gp_o M)) idx with
    | some t => gp_bt (Nat.ble 1 d) (match t with
      | 0 => gp_p2 st fun x y r => gp_bt (Nat.ble (gp_sz r) 8) (k (pc + 3) ls (.int (if x < y then y else x) :: r) V cs ss)
      | 1 => gp_p2 st fun x y r => gp_bt (Nat.ble (gp_sz r) 8) (k (pc + 3) ls (.int (if y < x then y else x) :: r) V cs ss)
      | _ => gp_p1 st fun x r => gp_bt (Nat.ble (gp_sz r) 8) (k (pc + 3) ls (.int (if 0 ≤ x then x else 0 - x) :: r) V cs ss))
    | none => gp_row (gp_lk (gp_ml (gp_o M)) idx) fun q => gp_row (gp_pop (gp_np q.2) [] st) fun a => gp_bt (Nat.beq q.1 1 || Nat.beq q.1 4) (gp_cl1 l G d M q.2 a.1 a.2 V cs ss fun r V' cs' ss' => k (pc + 3) ls (r.toList ++ a.2) V' cs' ss'))
  | .invokevirtual idx => gp_ln len 3 (gp_row (gp_lk (gp_ml (gp_o M)) idx) fun q => gp_row (gp_pop (gp_np q.2) [] st) fun a => gp_bt (Nat.beq q.1 0 || Nat.beq q.1 3) (match a.2 with
    | v :: rest => gp_rc V (gp_o q.2) v (gp_cl1 l G d M q.2 (v :: a.1) rest V cs ss fun r V' cs' ss' => k (pc + 3) ls (r.toList ++ rest) V' cs' ss')
    | [] => False))
  | .invokespecial idx => gp_ln len 3 (match gp_lk (gp_ol (gp_o M)) idx with
    | some _ => (match st, d with
      | .ref _ :: r, _ + 1 => gp_bt (Nat.ble (gp_sz r) 8) (k (pc + 3) ls r V cs ss)
      | _, _ => False)
    | none => gp_row (gp_lk (gp_ml (gp_o M)) idx) fun q => gp_row (gp_pop (gp_np q.2) [] st) fun a => gp_bt (Nat.beq q.1 2 || Nat.beq q.1 5) (match a.2 with
      | .ref v :: rest => gp_cl1 l G d M q.2 (.ref v :: a.1) rest V cs ss fun r V' cs' ss' => k (pc + 3) ls (r.toList ++ rest) V' cs' ss'
      | _ => False))
  | .ireturn => gp_ln len 1 (gp_ln cs (gp_mc M) (match st with
    | [.int x] => (match M.2.2.2.1 with
      | some .int => K (some (.int x)) V
      | some .boolean => (x = 0 ∨ x = 1) ∧ K (some (.int x)) V
      | some .byte => narrow .byte (.int x) = .int x ∧ K (some (.int x)) V
      | some .char => narrow .char (.int x) = .int x ∧ K (some (.int x)) V
      | _ => False)
    | _ => False))
  | .return_ => gp_ln len 1 (gp_ln cs (gp_mc M) (match st, M.2.2.2.1 with
    | [], none => K none V
    | _, _ => False))
  | _ => False
end
section
/-! ===== what the tables say: written by wip/whole/gen/gen2.py ===== -/
theorem gp_mg {w : Cond} (h : w ∈ lw_tbl) (g : goodWord w = true) : w ∈ gp_ws := List.mem_filter.mpr ⟨h, g⟩
theorem gp_in0 {w : Cond} {i : Nat} (h : lw_privs[i]?.map (fun q => Cond.selects q.1.cls q.1 q.1) = some w) (g : goodWord w = true) : w ∈ gp_ws := gp_mg (List.mem_append_left _ (by
  obtain ⟨q, h1, h2⟩ := Option.map_eq_some_iff.mp h
  exact List.mem_map.mpr ⟨q, List.mem_of_getElem? h1, h2⟩)) g
theorem gp_in1 {w : Cond} {i : Nat} (h : tables_1_1[i]? = some w) (g : goodWord w = true) : w ∈ gp_ws := gp_mg (List.mem_append_right _ (List.mem_append_left _ (List.mem_of_getElem? h))) g
theorem gp_in2 {w : Cond} {i : Nat} (h : tables_1_2[i]? = some w) (g : goodWord w = true) : w ∈ gp_ws := gp_mg (List.mem_append_right _ (List.mem_append_right _ (List.mem_append_left _ (List.mem_of_getElem? h)))) g
theorem gp_in3 {w : Cond} {i : Nat} (h : tables_1_3[i]? = some w) (g : goodWord w = true) : w ∈ gp_ws := gp_mg (List.mem_append_right _ (List.mem_append_right _ (List.mem_append_right _ (List.mem_append_left _ (List.mem_of_getElem? h))))) g
theorem gp_in4 {w : Cond} {i : Nat} (h : tables_1_4[i]? = some w) (g : goodWord w = true) : w ∈ gp_ws := gp_mg (List.mem_append_right _ (List.mem_append_right _ (List.mem_append_right _ (List.mem_append_right _ (List.mem_append_left _ (List.mem_of_getElem? h)))))) g
theorem gp_in5 {w : Cond} {i : Nat} (h : tables_1_5[i]? = some w) (g : goodWord w = true) : w ∈ gp_ws := gp_mg (List.mem_append_right _ (List.mem_append_right _ (List.mem_append_right _ (List.mem_append_right _ (List.mem_append_right _ (List.mem_append_left _ (List.mem_of_getElem? h))))))) g
theorem gp_in6 {w : Cond} {i : Nat} (h : tables_1_6[i]? = some w) (g : goodWord w = true) : w ∈ gp_ws := gp_mg (List.mem_append_right _ (List.mem_append_right _ (List.mem_append_right _ (List.mem_append_right _ (List.mem_append_right _ (List.mem_append_right _ (List.mem_append_left _ (List.mem_of_getElem? h)))))))) g
theorem gp_in7 {w : Cond} {i : Nat} (h : tables_1_7[i]? = some w) (g : goodWord w = true) : w ∈ gp_ws := gp_mg (List.mem_append_right _ (List.mem_append_right _ (List.mem_append_right _ (List.mem_append_right _ (List.mem_append_right _ (List.mem_append_right _ (List.mem_append_right _ (List.mem_append_left _ (List.mem_of_getElem? h))))))))) g
theorem gp_in8 {w : Cond} {i : Nat} (h : tables_1_8[i]? = some w) (g : goodWord w = true) : w ∈ gp_ws := gp_mg (List.mem_append_right _ (List.mem_append_right _ (List.mem_append_right _ (List.mem_append_right _ (List.mem_append_right _ (List.mem_append_right _ (List.mem_append_right _ (List.mem_append_right _ (List.mem_of_getElem? h))))))))) g
theorem gp_mc0 : ∀ w ∈ ([] : List Cond), w ∈ gp_ws := fun _ h => absurd h List.not_mem_nil
theorem gp_mc1 {a : Cond} {l : List Cond} (h : a ∈ gp_ws) (t : ∀ w ∈ l, w ∈ gp_ws) : ∀ w ∈ a :: l, w ∈ gp_ws := List.forall_mem_cons.mpr ⟨h, t⟩
theorem gp_mm {l l2 : List Cond} (h : ∀ w ∈ l, w ∈ gp_ws) (w : Cond) (hw : w ∈ l2) (e : l2 = l := by rfl) : w ∈ gp_ws := h w (e ▸ hw)
def gp_tg : FieldType → Nat
  | .int => 0
  | .boolean => 1
  | .long => 2
  | .object _ => 3
  | .array _ => 3
  | _ => 9
def gp_flp (own : String) (r : Nat × Nat × Nat × Nat × Bool) : Prop := ∃ (C : String) (T : u_T) (N : Nat) (ty : Nat → FieldType), gp_cl[r.2.1]? = some (C, T, N) ∧ gp_tyl[r.2.1]? = some ty ∧ r.2.2.1 < N ∧ Cond.fieldLink own r.1 (T r.2.2.1).1 (T r.2.2.1).2.1 (T r.2.2.1).2.2.1 ∈ gp_ws ∧ gp_tg (ty r.2.2.1) = r.2.2.2.1 ∧ (T r.2.2.1).2.2.2 = r.2.2.2.2
def gp_okp (M : gp_M) : Prop := (M.1.cls ≠ "java/lang/invoke/MethodHandle" ∧ M.1.cls ≠ "java/lang/invoke/VarHandle" ∧ (parseMethodDescriptor M.1.desc).map (fun d => d.parameters.length) = some (gp_np M)) ∧ Cond.code M.1 M.2.1 M.2.2.1 M.2.2.2.1 ∈ gp_ws ∧ M.2.2.1 ≤ 45 ∧ gp_on[gp_o M]? = some M.1.cls ∧ Cond.initialized M.1.cls ∈ gp_ws
def gp_xlp (own : String) (r : Nat × Nat) : Prop := (r.2 = 0 ∧ Cond.methodLink own r.1 Lib.Math.max.name ∈ gp_ws) ∨ (r.2 = 1 ∧ Cond.methodLink own r.1 Lib.Math.min.name ∈ gp_ws) ∨ (r.2 = 2 ∧ Cond.methodLink own r.1 Lib.Math.abs.name ∈ gp_ws)
def gp_mlp (own : String) (r : Nat × Nat × gp_M) : Prop := gp_okp r.2.2 ∧
  ((r.2.1 = 0 ∧ Cond.methodLink own r.1 r.2.2.1 ∈ gp_ws ∧ Cond.instanceMethod r.2.2.1 ∈ gp_ws ∧ Cond.selects r.2.2.1.cls r.2.2.1 r.2.2.1 ∈ gp_ws) ∨
   (r.2.1 = 1 ∧ Cond.methodLink own r.1 r.2.2.1 ∈ gp_ws ∧ Cond.static r.2.2.1 ∈ gp_ws) ∨
   (r.2.1 = 2 ∧ Cond.methodLink own r.1 r.2.2.1 ∈ gp_ws ∧ Cond.instanceMethod r.2.2.1 ∈ gp_ws ∧ r.2.2.1.name = "<init>" ∧ r.2.2.2.2.2.1 = none) ∨
   (r.2.1 = 3 ∧ (own, r.1, r.2.2.1, "GoldPlate") ∈ gp_nw ∧ Cond.instanceMethod r.2.2.1 ∈ gp_ws ∧ Cond.selects r.2.2.1.cls r.2.2.1 r.2.2.1 ∈ gp_ws) ∨
   (r.2.1 = 4 ∧ (own, r.1, r.2.2.1, "GoldPlate") ∈ gp_nw ∧ Cond.static r.2.2.1 ∈ gp_ws) ∨
   (r.2.1 = 5 ∧ (own, r.1, r.2.2.1, "GoldPlate") ∈ gp_nw ∧ Cond.instanceMethod r.2.2.1 ∈ gp_ws ∧ r.2.2.1.name = "<init>" ∧ r.2.2.2.2.2.1 = none))
end
section
theorem iw_0_0 : Cond.selects "GoldPlate" ⟨"GoldPlate", "inMessage", "(I)Z"⟩ ⟨"GoldPlate", "inMessage", "(I)Z"⟩ ∈ gp_ws := gp_in0 (i := 0) rfl rfl
theorem iw_0_1 : Cond.selects "GoldPlate$Parser" ⟨"GoldPlate$Parser", "runEnd", "(I)I"⟩ ⟨"GoldPlate$Parser", "runEnd", "(I)I"⟩ ∈ gp_ws := gp_in0 (i := 1) rfl rfl
theorem iw_0_2 : Cond.selects "GoldPlate$Parser" ⟨"GoldPlate$Parser", "scanRun", "(II)V"⟩ ⟨"GoldPlate$Parser", "scanRun", "(II)V"⟩ ∈ gp_ws := gp_in0 (i := 2) rfl rfl
theorem iw_0_3 : Cond.selects "GoldPlate$Parser" ⟨"GoldPlate$Parser", "keyword", "(II)I"⟩ ⟨"GoldPlate$Parser", "keyword", "(II)I"⟩ ∈ gp_ws := gp_in0 (i := 3) rfl rfl
theorem iw_0_4 : Cond.selects "GoldPlate$Parser" ⟨"GoldPlate$Parser", "indexIn", "(Ljava/lang/String;II)I"⟩ ⟨"GoldPlate$Parser", "indexIn", "(Ljava/lang/String;II)I"⟩ ∈ gp_ws := gp_in0 (i := 4) rfl rfl
theorem iw_0_5 : Cond.selects "GoldPlate$Parser" ⟨"GoldPlate$Parser", "standsAt", "(Ljava/lang/String;III)Z"⟩ ⟨"GoldPlate$Parser", "standsAt", "(Ljava/lang/String;III)Z"⟩ ∈ gp_ws := gp_in0 (i := 5) rfl rfl
theorem iw_0_6 : Cond.selects "GoldPlate$Parser" ⟨"GoldPlate$Parser", "addToken", "(III)V"⟩ ⟨"GoldPlate$Parser", "addToken", "(III)V"⟩ ∈ gp_ws := gp_in0 (i := 6) rfl rfl
theorem iw_0_7 : Cond.selects "GoldPlate$Parser" ⟨"GoldPlate$Parser", "numberOf", "(II)I"⟩ ⟨"GoldPlate$Parser", "numberOf", "(II)I"⟩ ∈ gp_ws := gp_in0 (i := 7) rfl rfl
theorem iw_0_8 : Cond.selects "GoldPlate$Parser" ⟨"GoldPlate$Parser", "kind", "()I"⟩ ⟨"GoldPlate$Parser", "kind", "()I"⟩ ∈ gp_ws := gp_in0 (i := 8) rfl rfl
theorem iw_0_9 : Cond.selects "GoldPlate$Parser" ⟨"GoldPlate$Parser", "readLine", "()V"⟩ ⟨"GoldPlate$Parser", "readLine", "()V"⟩ ∈ gp_ws := gp_in0 (i := 9) rfl rfl
theorem iw_0_10 : Cond.selects "GoldPlate$Parser" ⟨"GoldPlate$Parser", "fail", "(I)V"⟩ ⟨"GoldPlate$Parser", "fail", "(I)V"⟩ ∈ gp_ws := gp_in0 (i := 10) rfl rfl
theorem iw_0_11 : Cond.selects "GoldPlate$Parser" ⟨"GoldPlate$Parser", "expression", "()V"⟩ ⟨"GoldPlate$Parser", "expression", "()V"⟩ ∈ gp_ws := gp_in0 (i := 11) rfl rfl
theorem iw_0_12 : Cond.selects "GoldPlate$Parser" ⟨"GoldPlate$Parser", "unit", "()V"⟩ ⟨"GoldPlate$Parser", "unit", "()V"⟩ ∈ gp_ws := gp_in0 (i := 12) rfl rfl
theorem iw_0_13 : Cond.selects "GoldPlate$Parser" ⟨"GoldPlate$Parser", "emit", "(II)V"⟩ ⟨"GoldPlate$Parser", "emit", "(II)V"⟩ ∈ gp_ws := gp_in0 (i := 13) rfl rfl
theorem iw_0_14 : Cond.selects "GoldPlate$Parser" ⟨"GoldPlate$Parser", "part", "()V"⟩ ⟨"GoldPlate$Parser", "part", "()V"⟩ ∈ gp_ws := gp_in0 (i := 14) rfl rfl
theorem iw_0_15 : Cond.selects "GoldPlate$Parser" ⟨"GoldPlate$Parser", "condition", "(I)V"⟩ ⟨"GoldPlate$Parser", "condition", "(I)V"⟩ ∈ gp_ws := gp_in0 (i := 15) rfl rfl
theorem iw_0_16 : Cond.selects "GoldPlate$Parser" ⟨"GoldPlate$Parser", "check", "(I)V"⟩ ⟨"GoldPlate$Parser", "check", "(I)V"⟩ ∈ gp_ws := gp_in0 (i := 16) rfl rfl
theorem iw_0_17 : Cond.selects "GoldPlate$Parser" ⟨"GoldPlate$Parser", "expect", "(I)V"⟩ ⟨"GoldPlate$Parser", "expect", "(I)V"⟩ ∈ gp_ws := gp_in0 (i := 17) rfl rfl
theorem iw_0_18 : Cond.selects "GoldPlate$Parser" ⟨"GoldPlate$Parser", "expectComparison", "(I)V"⟩ ⟨"GoldPlate$Parser", "expectComparison", "(I)V"⟩ ∈ gp_ws := gp_in0 (i := 18) rfl rfl
theorem iw_0_19 : Cond.selects "GoldPlate$Parser" ⟨"GoldPlate$Parser", "readNumber", "(I)V"⟩ ⟨"GoldPlate$Parser", "readNumber", "(I)V"⟩ ∈ gp_ws := gp_in0 (i := 19) rfl rfl
theorem iw_0_20 : Cond.selects "GoldPlate$Search" ⟨"GoldPlate$Search", "takingsOf", "(LGoldPlate$Mark;LGoldPlate$Mind;I)I"⟩ ⟨"GoldPlate$Search", "takingsOf", "(LGoldPlate$Mark;LGoldPlate$Mind;I)I"⟩ ∈ gp_ws := gp_in0 (i := 20) rfl rfl
theorem iw_0_21 : Cond.selects "GoldPlate$Search" ⟨"GoldPlate$Search", "priceAll", "(ILGoldPlate$Mind;)V"⟩ ⟨"GoldPlate$Search", "priceAll", "(ILGoldPlate$Mind;)V"⟩ ∈ gp_ws := gp_in0 (i := 21) rfl rfl
theorem iw_0_22 : Cond.selects "GoldPlate$Sums" ⟨"GoldPlate$Sums", "step", "(II)V"⟩ ⟨"GoldPlate$Sums", "step", "(II)V"⟩ ∈ gp_ws := gp_in0 (i := 22) rfl rfl
theorem iw_0_23 : Cond.selects "GoldPlate$Search" ⟨"GoldPlate$Search", "setFloors", "()V"⟩ ⟨"GoldPlate$Search", "setFloors", "()V"⟩ ∈ gp_ws := gp_in0 (i := 23) rfl rfl
theorem iw_0_24 : Cond.selects "GoldPlate$Search" ⟨"GoldPlate$Search", "walk", "(IIII)V"⟩ ⟨"GoldPlate$Search", "walk", "(IIII)V"⟩ ∈ gp_ws := gp_in0 (i := 24) rfl rfl
theorem iw_0_25 : Cond.selects "GoldPlate$Search" ⟨"GoldPlate$Search", "arrive", "(I)V"⟩ ⟨"GoldPlate$Search", "arrive", "(I)V"⟩ ∈ gp_ws := gp_in0 (i := 25) rfl rfl
theorem iw_0_26 : Cond.selects "GoldPlate" ⟨"GoldPlate", "findCheapest", "(JII)V"⟩ ⟨"GoldPlate", "findCheapest", "(JII)V"⟩ ∈ gp_ws := gp_in0 (i := 26) rfl rfl
theorem iw_0_27 : Cond.selects "GoldPlate$Widths" ⟨"GoldPlate$Widths", "insert", "(II)V"⟩ ⟨"GoldPlate$Widths", "insert", "(II)V"⟩ ∈ gp_ws := gp_in0 (i := 27) rfl rfl
theorem iw_0_28 : Cond.selects "GoldPlate$Sky" ⟨"GoldPlate$Sky", "anyFound", "()Z"⟩ ⟨"GoldPlate$Sky", "anyFound", "()Z"⟩ ∈ gp_ws := gp_in0 (i := 28) rfl rfl
theorem iw_0_29 : Cond.selects "GoldPlate$Sky" ⟨"GoldPlate$Sky", "fitsAll", "(I)Z"⟩ ⟨"GoldPlate$Sky", "fitsAll", "(I)Z"⟩ ∈ gp_ws := gp_in0 (i := 29) rfl rfl
theorem iw_0_30 : Cond.selects "GoldPlate$Sky" ⟨"GoldPlate$Sky", "fits", "(II)Z"⟩ ⟨"GoldPlate$Sky", "fits", "(II)Z"⟩ ∈ gp_ws := gp_in0 (i := 30) rfl rfl
theorem iw_0_31 : Cond.selects "GoldPlate$Sky" ⟨"GoldPlate$Sky", "isPlace", "(III)Z"⟩ ⟨"GoldPlate$Sky", "isPlace", "(III)Z"⟩ ∈ gp_ws := gp_in0 (i := 31) rfl rfl
theorem iw_0_32 : Cond.selects "GoldPlate$Chooser" ⟨"GoldPlate$Chooser", "ableMarks", "(LGoldPlate$Mind;)I"⟩ ⟨"GoldPlate$Chooser", "ableMarks", "(LGoldPlate$Mind;)I"⟩ ∈ gp_ws := gp_in0 (i := 32) rfl rfl
theorem iw_0_33 : Cond.selects "GoldPlate$Chooser" ⟨"GoldPlate$Chooser", "grow", "(IIII)V"⟩ ⟨"GoldPlate$Chooser", "grow", "(IIII)V"⟩ ∈ gp_ws := gp_in0 (i := 33) rfl rfl
theorem iw_0_34 : Cond.selects "GoldPlate$Chooser" ⟨"GoldPlate$Chooser", "judge", "(III)V"⟩ ⟨"GoldPlate$Chooser", "judge", "(III)V"⟩ ∈ gp_ws := gp_in0 (i := 34) rfl rfl
theorem iw_0_35 : Cond.selects "GoldPlate$Chooser" ⟨"GoldPlate$Chooser", "scoreOf", "(I)I"⟩ ⟨"GoldPlate$Chooser", "scoreOf", "(I)I"⟩ ∈ gp_ws := gp_in0 (i := 35) rfl rfl
theorem iw_0_36 : Cond.selects "GoldPlate$Chooser" ⟨"GoldPlate$Chooser", "gains", "(II)Z"⟩ ⟨"GoldPlate$Chooser", "gains", "(II)Z"⟩ ∈ gp_ws := gp_in0 (i := 36) rfl rfl
theorem iw_0_37 : Cond.selects "GoldPlate" ⟨"GoldPlate", "countTold", "(III)I"⟩ ⟨"GoldPlate", "countTold", "(III)I"⟩ ∈ gp_ws := gp_in0 (i := 37) rfl rfl
theorem iw_0_38 : Cond.selects "GoldPlate" ⟨"GoldPlate", "othersAreThere", "(I)Z"⟩ ⟨"GoldPlate", "othersAreThere", "(I)Z"⟩ ∈ gp_ws := gp_in0 (i := 38) rfl rfl
theorem iw_0_39 : Cond.selects "GoldPlate" ⟨"GoldPlate", "marksAtPlaces", "(I)I"⟩ ⟨"GoldPlate", "marksAtPlaces", "(I)I"⟩ ∈ gp_ws := gp_in0 (i := 39) rfl rfl
theorem iw_0_40 : Cond.selects "GoldPlateModel" ⟨"GoldPlateModel", "isMark", "(I)Z"⟩ ⟨"GoldPlateModel", "isMark", "(I)Z"⟩ ∈ gp_ws := gp_in0 (i := 40) rfl rfl
theorem iw_0_41 : Cond.selects "GoldPlateModel" ⟨"GoldPlateModel", "chain", "(I)I"⟩ ⟨"GoldPlateModel", "chain", "(I)I"⟩ ∈ gp_ws := gp_in0 (i := 41) rfl rfl
theorem iw_0_42 : Cond.selects "GoldPlateModel" ⟨"GoldPlateModel", "left", "(II)I"⟩ ⟨"GoldPlateModel", "left", "(II)I"⟩ ∈ gp_ws := gp_in0 (i := 42) rfl rfl
theorem iw_0_43 : Cond.selects "GoldPlateModel" ⟨"GoldPlateModel", "depth", "(I)I"⟩ ⟨"GoldPlateModel", "depth", "(I)I"⟩ ∈ gp_ws := gp_in0 (i := 43) rfl rfl
theorem iw_0_44 : Cond.selects "GoldPlateModel" ⟨"GoldPlateModel", "isWorn", "(I)Z"⟩ ⟨"GoldPlateModel", "isWorn", "(I)Z"⟩ ∈ gp_ws := gp_in0 (i := 44) rfl rfl
theorem iw_0_45 : Cond.selects "GoldPlateModel" ⟨"GoldPlateModel", "isMind", "(I)Z"⟩ ⟨"GoldPlateModel", "isMind", "(I)Z"⟩ ∈ gp_ws := gp_in0 (i := 45) rfl rfl
theorem iw_0_46 : Cond.selects "GoldPlateModel" ⟨"GoldPlateModel", "next0", "()V"⟩ ⟨"GoldPlateModel", "next0", "()V"⟩ ∈ gp_ws := gp_in0 (i := 46) rfl rfl
theorem iw_0_47 : Cond.selects "GoldPlateModel" ⟨"GoldPlateModel", "see", "(I)I"⟩ ⟨"GoldPlateModel", "see", "(I)I"⟩ ∈ gp_ws := gp_in0 (i := 47) rfl rfl
theorem iw_0_48 : Cond.selects "GoldPlateModel" ⟨"GoldPlateModel", "word", "()I"⟩ ⟨"GoldPlateModel", "word", "()I"⟩ ∈ gp_ws := gp_in0 (i := 48) rfl rfl
theorem iw_0_49 : Cond.selects "GoldPlateModel" ⟨"GoldPlateModel", "is", "(Ljava/lang/String;)Z"⟩ ⟨"GoldPlateModel", "is", "(Ljava/lang/String;)Z"⟩ ∈ gp_ws := gp_in0 (i := 49) rfl rfl
theorem iw_0_50 : Cond.selects "GoldPlateModel" ⟨"GoldPlateModel", "name", "()I"⟩ ⟨"GoldPlateModel", "name", "()I"⟩ ∈ gp_ws := gp_in0 (i := 50) rfl rfl
theorem iw_0_51 : Cond.selects "GoldPlateModel" ⟨"GoldPlateModel", "aLine", "()Z"⟩ ⟨"GoldPlateModel", "aLine", "()Z"⟩ ∈ gp_ws := gp_in0 (i := 51) rfl rfl
theorem iw_0_52 : Cond.selects "GoldPlateModel" ⟨"GoldPlateModel", "bad", "(I)Z"⟩ ⟨"GoldPlateModel", "bad", "(I)Z"⟩ ∈ gp_ws := gp_in0 (i := 52) rfl rfl
theorem iw_0_53 : Cond.selects "GoldPlateModel" ⟨"GoldPlateModel", "number", "(II)Z"⟩ ⟨"GoldPlateModel", "number", "(II)Z"⟩ ∈ gp_ws := gp_in0 (i := 53) rfl rfl
theorem iw_0_54 : Cond.selects "GoldPlateModel" ⟨"GoldPlateModel", "aPrice", "()Z"⟩ ⟨"GoldPlateModel", "aPrice", "()Z"⟩ ∈ gp_ws := gp_in0 (i := 54) rfl rfl
theorem iw_0_55 : Cond.selects "GoldPlateModel" ⟨"GoldPlateModel", "sumUp", "()Z"⟩ ⟨"GoldPlateModel", "sumUp", "()Z"⟩ ∈ gp_ws := gp_in0 (i := 55) rfl rfl
theorem iw_0_56 : Cond.selects "GoldPlateModel" ⟨"GoldPlateModel", "product", "()Z"⟩ ⟨"GoldPlateModel", "product", "()Z"⟩ ∈ gp_ws := gp_in0 (i := 56) rfl rfl
theorem iw_0_57 : Cond.selects "GoldPlateModel" ⟨"GoldPlateModel", "unit", "()Z"⟩ ⟨"GoldPlateModel", "unit", "()Z"⟩ ∈ gp_ws := gp_in0 (i := 57) rfl rfl
theorem iw_0_58 : Cond.selects "GoldPlateModel" ⟨"GoldPlateModel", "lay", "(II)V"⟩ ⟨"GoldPlateModel", "lay", "(II)V"⟩ ∈ gp_ws := gp_in0 (i := 58) rfl rfl
theorem iw_0_59 : Cond.selects "GoldPlateModel" ⟨"GoldPlateModel", "any", "()Z"⟩ ⟨"GoldPlateModel", "any", "()Z"⟩ ∈ gp_ws := gp_in0 (i := 59) rfl rfl
theorem iw_0_60 : Cond.selects "GoldPlateModel" ⟨"GoldPlateModel", "every", "()Z"⟩ ⟨"GoldPlateModel", "every", "()Z"⟩ ∈ gp_ws := gp_in0 (i := 60) rfl rfl
theorem iw_0_61 : Cond.selects "GoldPlateModel" ⟨"GoldPlateModel", "one", "()Z"⟩ ⟨"GoldPlateModel", "one", "()Z"⟩ ∈ gp_ws := gp_in0 (i := 61) rfl rfl
theorem iw_0_62 : Cond.selects "GoldPlateModel" ⟨"GoldPlateModel", "opens", "()Z"⟩ ⟨"GoldPlateModel", "opens", "()Z"⟩ ∈ gp_ws := gp_in0 (i := 62) rfl rfl
theorem iw_0_63 : Cond.selects "GoldPlateModel" ⟨"GoldPlateModel", "need", "(I)Z"⟩ ⟨"GoldPlateModel", "need", "(I)Z"⟩ ∈ gp_ws := gp_in0 (i := 63) rfl rfl
theorem iw_0_64 : Cond.selects "GoldPlateModel" ⟨"GoldPlateModel", "takesMind", "(II)V"⟩ ⟨"GoldPlateModel", "takesMind", "(II)V"⟩ ∈ gp_ws := gp_in0 (i := 64) rfl rfl
theorem iw_0_65 : Cond.selects "GoldPlateModel" ⟨"GoldPlateModel", "laysPrices", "(I)V"⟩ ⟨"GoldPlateModel", "laysPrices", "(I)V"⟩ ∈ gp_ws := gp_in0 (i := 65) rfl rfl
theorem iw_0_66 : Cond.selects "GoldPlateModel" ⟨"GoldPlateModel", "priceNow", "(I)I"⟩ ⟨"GoldPlateModel", "priceNow", "(I)I"⟩ ∈ gp_ws := gp_in0 (i := 66) rfl rfl
theorem iw_0_67 : Cond.selects "GoldPlateModel" ⟨"GoldPlateModel", "comesTo", "(III)I"⟩ ⟨"GoldPlateModel", "comesTo", "(III)I"⟩ ∈ gp_ws := gp_in0 (i := 67) rfl rfl
theorem iw_0_68 : Cond.selects "GoldPlateModel" ⟨"GoldPlateModel", "goesOn", "(IIZ)V"⟩ ⟨"GoldPlateModel", "goesOn", "(IIZ)V"⟩ ∈ gp_ws := gp_in0 (i := 68) rfl rfl
theorem iw_0_69 : Cond.selects "GoldPlateModel" ⟨"GoldPlateModel", "canTake", "(II)Z"⟩ ⟨"GoldPlateModel", "canTake", "(II)Z"⟩ ∈ gp_ws := gp_in0 (i := 69) rfl rfl
theorem iw_0_70 : Cond.selects "GoldPlateModel" ⟨"GoldPlateModel", "canSee", "(III)Z"⟩ ⟨"GoldPlateModel", "canSee", "(III)Z"⟩ ∈ gp_ws := gp_in0 (i := 70) rfl rfl
theorem iw_0_71 : Cond.selects "GoldPlateModel" ⟨"GoldPlateModel", "isTwice", "(II)Z"⟩ ⟨"GoldPlateModel", "isTwice", "(II)Z"⟩ ∈ gp_ws := gp_in0 (i := 71) rfl rfl
theorem iw_0_72 : Cond.selects "GoldPlateModel" ⟨"GoldPlateModel", "thing", "(II)I"⟩ ⟨"GoldPlateModel", "thing", "(II)I"⟩ ∈ gp_ws := gp_in0 (i := 72) rfl rfl
theorem iw_0_73 : Cond.selects "GoldPlateModel" ⟨"GoldPlateModel", "seeks", "(I)V"⟩ ⟨"GoldPlateModel", "seeks", "(I)V"⟩ ∈ gp_ws := gp_in0 (i := 73) rfl rfl
theorem iw_0_74 : Cond.selects "GoldPlateModel" ⟨"GoldPlateModel", "allNeeds", "(I)I"⟩ ⟨"GoldPlateModel", "allNeeds", "(I)I"⟩ ∈ gp_ws := gp_in0 (i := 74) rfl rfl
theorem iw_0_75 : Cond.selects "GoldPlateModel" ⟨"GoldPlateModel", "isAlone", "(III)Z"⟩ ⟨"GoldPlateModel", "isAlone", "(III)Z"⟩ ∈ gp_ws := gp_in0 (i := 75) rfl rfl
theorem iw_0_76 : Cond.selects "GoldPlateModel" ⟨"GoldPlateModel", "findsWidths", "(I)V"⟩ ⟨"GoldPlateModel", "findsWidths", "(I)V"⟩ ∈ gp_ws := gp_in0 (i := 76) rfl rfl
theorem iw_0_77 : Cond.selects "GoldPlateModel" ⟨"GoldPlateModel", "isWidth", "(I)Z"⟩ ⟨"GoldPlateModel", "isWidth", "(I)Z"⟩ ∈ gp_ws := gp_in0 (i := 77) rfl rfl
theorem iw_0_78 : Cond.selects "GoldPlateModel" ⟨"GoldPlateModel", "triedAs", "(II)I"⟩ ⟨"GoldPlateModel", "triedAs", "(II)I"⟩ ∈ gp_ws := gp_in0 (i := 78) rfl rfl
theorem iw_0_79 : Cond.selects "GoldPlateModel" ⟨"GoldPlateModel", "edges", "(II)I"⟩ ⟨"GoldPlateModel", "edges", "(II)I"⟩ ∈ gp_ws := gp_in0 (i := 79) rfl rfl
theorem iw_0_80 : Cond.selects "GoldPlateModel" ⟨"GoldPlateModel", "laidAt", "(IIII)I"⟩ ⟨"GoldPlateModel", "laidAt", "(IIII)I"⟩ ∈ gp_ws := gp_in0 (i := 80) rfl rfl
theorem iw_0_81 : Cond.selects "GoldPlateModel" ⟨"GoldPlateModel", "isBeat", "(I)Z"⟩ ⟨"GoldPlateModel", "isBeat", "(I)Z"⟩ ∈ gp_ws := gp_in0 (i := 81) rfl rfl
theorem iw_0_82 : Cond.selects "GoldPlateModel" ⟨"GoldPlateModel", "isThen", "(I)Z"⟩ ⟨"GoldPlateModel", "isThen", "(I)Z"⟩ ∈ gp_ws := gp_in0 (i := 82) rfl rfl
theorem iw_0_83 : Cond.selects "GoldPlateModel" ⟨"GoldPlateModel", "toldBy", "(III)I"⟩ ⟨"GoldPlateModel", "toldBy", "(III)I"⟩ ∈ gp_ws := gp_in0 (i := 83) rfl rfl
theorem iw_0_84 : Cond.selects "GoldPlateModel" ⟨"GoldPlateModel", "worth", "(IIZ)I"⟩ ⟨"GoldPlateModel", "worth", "(IIZ)I"⟩ ∈ gp_ws := gp_in0 (i := 84) rfl rfl
theorem iw_0_85 : Cond.selects "GoldPlateModel" ⟨"GoldPlateModel", "costOfSet", "(I)I"⟩ ⟨"GoldPlateModel", "costOfSet", "(I)I"⟩ ∈ gp_ws := gp_in0 (i := 85) rfl rfl
theorem iw_0_86 : Cond.selects "GoldPlateModel" ⟨"GoldPlateModel", "allMarks", "()I"⟩ ⟨"GoldPlateModel", "allMarks", "()I"⟩ ∈ gp_ws := gp_in0 (i := 86) rfl rfl
theorem iw_0_87 : Cond.selects "GoldPlateModel" ⟨"GoldPlateModel", "cheapestNow", "()I"⟩ ⟨"GoldPlateModel", "cheapestNow", "()I"⟩ ∈ gp_ws := gp_in0 (i := 87) rfl rfl
theorem iw_0_88 : Cond.selects "GoldPlateModel" ⟨"GoldPlateModel", "isOfThis", "(I)Z"⟩ ⟨"GoldPlateModel", "isOfThis", "(I)Z"⟩ ∈ gp_ws := gp_in0 (i := 88) rfl rfl
theorem iw_1_1 : Cond.initialized "GoldPlate" ∈ gp_ws := gp_in1 (i := 1) rfl rfl
theorem iw_1_2 : Cond.initialized "GoldPlate$Plate" ∈ gp_ws := gp_in1 (i := 2) rfl rfl
theorem iw_1_3 : Cond.initialized "GoldPlate$Mark" ∈ gp_ws := gp_in1 (i := 3) rfl rfl
theorem iw_1_4 : Cond.initialized "GoldPlate$Mind" ∈ gp_ws := gp_in1 (i := 4) rfl rfl
theorem iw_1_5 : Cond.initialized "GoldPlate$Sums" ∈ gp_ws := gp_in1 (i := 5) rfl rfl
theorem iw_1_6 : Cond.initialized "GoldPlate$Parser" ∈ gp_ws := gp_in1 (i := 6) rfl rfl
theorem iw_1_7 : Cond.initialized "GoldPlate$Search" ∈ gp_ws := gp_in1 (i := 7) rfl rfl
theorem iw_1_8 : Cond.initialized "GoldPlate$Chooser" ∈ gp_ws := gp_in1 (i := 8) rfl rfl
theorem iw_1_9 : Cond.initialized "GoldPlate$BitRow" ∈ gp_ws := gp_in1 (i := 9) rfl rfl
theorem iw_1_10 : Cond.initialized "GoldPlate$Widths" ∈ gp_ws := gp_in1 (i := 10) rfl rfl
theorem iw_1_11 : Cond.initialized "GoldPlate$Sky" ∈ gp_ws := gp_in1 (i := 11) rfl rfl
theorem iw_1_12 : Cond.initialized "GoldPlate$Trials" ∈ gp_ws := gp_in1 (i := 12) rfl rfl
theorem iw_1_13 : Cond.initialized "GoldPlateModel" ∈ gp_ws := gp_in1 (i := 13) rfl rfl
theorem iw_1_14 : Cond.initialized "java/lang/Math" ∈ gp_ws := gp_in1 (i := 14) rfl rfl
theorem iw_1_15 : Cond.initialized "java/lang/String" ∈ gp_ws := gp_in1 (i := 15) rfl rfl
theorem iw_1_16 : Cond.initialized "java/lang/StringLatin1" ∈ gp_ws := gp_in1 (i := 16) rfl rfl
theorem iw_1_17 : Cond.initialized "jdk/internal/util/Preconditions" ∈ gp_ws := gp_in1 (i := 17) rfl rfl
theorem iw_1_20 : Cond.initialized "java/lang/Integer" ∈ gp_ws := gp_in1 (i := 20) rfl rfl
theorem iw_1_21 : Cond.classLink "GoldPlateLaw" 7 "GoldPlate" ∈ gp_ws := gp_in1 (i := 21) rfl rfl
theorem iw_1_22 : Cond.instantiable "GoldPlate" 13 ∈ gp_ws := gp_in1 (i := 22) rfl rfl
theorem iw_1_23 : Cond.methodLink "GoldPlateLaw" 9 ⟨"GoldPlate", "<init>", "()V"⟩ ∈ gp_ws := gp_in1 (i := 23) rfl rfl
theorem iw_1_24 : Cond.instanceMethod ⟨"GoldPlate", "<init>", "()V"⟩ ∈ gp_ws := gp_in1 (i := 24) rfl rfl
theorem iw_1_25 : Cond.code ⟨"GoldPlate", "<init>", "()V"⟩ prog_1_method_1_code 4 none ∈ gp_ws := gp_in1 (i := 25) rfl rfl
theorem iw_1_26 : Cond.methodLink "GoldPlate" 3 ⟨"java/lang/Object", "<init>", "()V"⟩ ∈ gp_ws := gp_in1 (i := 26) rfl rfl
theorem iw_1_27 : Cond.instanceMethod ⟨"java/lang/Object", "<init>", "()V"⟩ ∈ gp_ws := gp_in1 (i := 27) rfl rfl
theorem iw_1_28 : Cond.code ⟨"java/lang/Object", "<init>", "()V"⟩ object_method_1_code 1 none ∈ gp_ws := gp_in1 (i := 28) rfl rfl
theorem iw_1_29 : Cond.classLink "GoldPlate" 9 "GoldPlate$Plate" ∈ gp_ws := gp_in1 (i := 29) rfl rfl
theorem iw_1_30 : Cond.instantiable "GoldPlate$Plate" 5 ∈ gp_ws := gp_in1 (i := 30) rfl rfl
theorem iw_1_31 : Cond.methodLink "GoldPlate" 11 ⟨"GoldPlate$Plate", "<init>", "()V"⟩ ∈ gp_ws := gp_in1 (i := 31) rfl rfl
theorem iw_1_32 : Cond.instanceMethod ⟨"GoldPlate$Plate", "<init>", "()V"⟩ ∈ gp_ws := gp_in1 (i := 32) rfl rfl
theorem iw_1_33 : Cond.code ⟨"GoldPlate$Plate", "<init>", "()V"⟩ prog_7_method_1_code 2 none ∈ gp_ws := gp_in1 (i := 33) rfl rfl
theorem iw_1_34 : Cond.methodLink "GoldPlate$Plate" 3 ⟨"java/lang/Object", "<init>", "()V"⟩ ∈ gp_ws := gp_in1 (i := 34) rfl rfl
theorem iw_1_35 : Cond.classLink "GoldPlate$Plate" 9 "GoldPlate$Mark" ∈ gp_ws := gp_in1 (i := 35) rfl rfl
theorem iw_1_37 : Cond.instantiable "GoldPlate$Mark" 9 ∈ gp_ws := gp_in1 (i := 37) rfl rfl
theorem iw_1_39 : Cond.instanceMethod ⟨"GoldPlate$Mark", "<init>", "()V"⟩ ∈ gp_ws := gp_in1 (i := 39) rfl rfl
theorem iw_1_40 : Cond.code ⟨"GoldPlate$Mark", "<init>", "()V"⟩ prog_4_method_1_code 1 none ∈ gp_ws := gp_in1 (i := 40) rfl rfl
theorem iw_1_41 : Cond.methodLink "GoldPlate$Mark" 3 ⟨"java/lang/Object", "<init>", "()V"⟩ ∈ gp_ws := gp_in1 (i := 41) rfl rfl
theorem iw_1_42 : Cond.fieldLink "GoldPlate" 98 "GoldPlate$Mark" "kind" "I" ∈ gp_ws := gp_in1 (i := 42) rfl rfl
theorem iw_1_43 : Cond.fieldLink "GoldPlate$Plate" 35 "GoldPlate$Mark" "kind" "I" ∈ gp_ws := gp_in1 (i := 43) rfl rfl
theorem iw_1_44 : Cond.fieldLink "GoldPlate$Search" 97 "GoldPlate$Mark" "kind" "I" ∈ gp_ws := gp_in1 (i := 44) rfl rfl
theorem iw_1_45 : Cond.fieldLink "GoldPlate$Mark" 18 "GoldPlate$Mark" "thing" "I" ∈ gp_ws := gp_in1 (i := 45) rfl rfl
theorem iw_1_46 : Cond.fieldLink "GoldPlate" 103 "GoldPlate$Mark" "thing" "I" ∈ gp_ws := gp_in1 (i := 46) rfl rfl
theorem iw_1_47 : Cond.fieldLink "GoldPlate$Chooser" 96 "GoldPlate$Mark" "thing" "I" ∈ gp_ws := gp_in1 (i := 47) rfl rfl
theorem iw_1_48 : Cond.fieldLink "GoldPlate$Plate" 68 "GoldPlate$Mark" "thing" "I" ∈ gp_ws := gp_in1 (i := 48) rfl rfl
theorem iw_1_49 : Cond.fieldLink "GoldPlate" 106 "GoldPlate$Mark" "cost" "I" ∈ gp_ws := gp_in1 (i := 49) rfl rfl
theorem iw_1_50 : Cond.fieldLink "GoldPlate$Chooser" 84 "GoldPlate$Mark" "cost" "I" ∈ gp_ws := gp_in1 (i := 50) rfl rfl
theorem iw_1_51 : Cond.fieldLink "GoldPlate$Search" 100 "GoldPlate$Mark" "cost" "I" ∈ gp_ws := gp_in1 (i := 51) rfl rfl
theorem iw_1_52 : Cond.fieldLink "GoldPlate" 109 "GoldPlate$Mark" "depth" "I" ∈ gp_ws := gp_in1 (i := 52) rfl rfl
theorem iw_1_53 : Cond.fieldLink "GoldPlate$Plate" 29 "GoldPlate$Mark" "depth" "I" ∈ gp_ws := gp_in1 (i := 53) rfl rfl
theorem iw_1_54 : Cond.fieldLink "GoldPlate" 112 "GoldPlate$Mark" "senses" "I" ∈ gp_ws := gp_in1 (i := 54) rfl rfl
theorem iw_1_55 : Cond.fieldLink "GoldPlate$Plate" 51 "GoldPlate$Mark" "senses" "I" ∈ gp_ws := gp_in1 (i := 55) rfl rfl
theorem iw_1_56 : Cond.fieldLink "GoldPlate$Search" 80 "GoldPlate$Mark" "needs" "I" ∈ gp_ws := gp_in1 (i := 56) rfl rfl
theorem iw_1_57 : Cond.fieldLink "GoldPlate" 133 "GoldPlate$Mark" "needs" "I" ∈ gp_ws := gp_in1 (i := 57) rfl rfl
theorem iw_1_58 : Cond.fieldLink "GoldPlate$Chooser" 93 "GoldPlate$Mark" "needs" "I" ∈ gp_ws := gp_in1 (i := 58) rfl rfl
theorem iw_1_59 : Cond.fieldLink "GoldPlate$Plate" 42 "GoldPlate$Mark" "needs" "I" ∈ gp_ws := gp_in1 (i := 59) rfl rfl
theorem iw_1_60 : Cond.fieldLink "GoldPlate$Search" 72 "GoldPlate$Mark" "knows" "I" ∈ gp_ws := gp_in1 (i := 60) rfl rfl
theorem iw_1_61 : Cond.fieldLink "GoldPlate" 136 "GoldPlate$Mark" "knows" "I" ∈ gp_ws := gp_in1 (i := 61) rfl rfl
theorem iw_1_62 : Cond.fieldLink "GoldPlate$Plate" 60 "GoldPlate$Mark" "knows" "I" ∈ gp_ws := gp_in1 (i := 62) rfl rfl
theorem iw_1_63 : Cond.fieldLink "GoldPlate$Mark" 9 "GoldPlate$Mark" "first" "I" ∈ gp_ws := gp_in1 (i := 63) rfl rfl
theorem iw_1_64 : Cond.fieldLink "GoldPlate$Search" 83 "GoldPlate$Mark" "first" "I" ∈ gp_ws := gp_in1 (i := 64) rfl rfl
theorem iw_1_65 : Cond.fieldLink "GoldPlate" 145 "GoldPlate$Mark" "first" "I" ∈ gp_ws := gp_in1 (i := 65) rfl rfl
theorem iw_1_66 : Cond.fieldLink "GoldPlate$Mark" 15 "GoldPlate$Mark" "second" "I" ∈ gp_ws := gp_in1 (i := 66) rfl rfl
theorem iw_1_67 : Cond.fieldLink "GoldPlate$Search" 86 "GoldPlate$Mark" "second" "I" ∈ gp_ws := gp_in1 (i := 67) rfl rfl
theorem iw_1_68 : Cond.fieldLink "GoldPlate" 139 "GoldPlate$Mark" "second" "I" ∈ gp_ws := gp_in1 (i := 68) rfl rfl
theorem iw_1_69 : Cond.lays "GoldPlate$Mark" "GoldPlate$Mark" "kind" "I" ∈ gp_ws := gp_in1 (i := 69) rfl rfl
theorem iw_1_71 : Cond.lays "GoldPlate$Mark" "GoldPlate$Mark" "thing" "I" ∈ gp_ws := gp_in1 (i := 71) rfl rfl
theorem iw_1_73 : Cond.lays "GoldPlate$Mark" "GoldPlate$Mark" "cost" "I" ∈ gp_ws := gp_in1 (i := 73) rfl rfl
theorem iw_1_75 : Cond.lays "GoldPlate$Mark" "GoldPlate$Mark" "depth" "I" ∈ gp_ws := gp_in1 (i := 75) rfl rfl
theorem iw_1_77 : Cond.lays "GoldPlate$Mark" "GoldPlate$Mark" "senses" "I" ∈ gp_ws := gp_in1 (i := 77) rfl rfl
theorem iw_1_79 : Cond.lays "GoldPlate$Mark" "GoldPlate$Mark" "needs" "I" ∈ gp_ws := gp_in1 (i := 79) rfl rfl
theorem iw_1_81 : Cond.lays "GoldPlate$Mark" "GoldPlate$Mark" "knows" "I" ∈ gp_ws := gp_in1 (i := 81) rfl rfl
theorem iw_1_83 : Cond.lays "GoldPlate$Mark" "GoldPlate$Mark" "first" "I" ∈ gp_ws := gp_in1 (i := 83) rfl rfl
theorem iw_1_85 : Cond.lays "GoldPlate$Mark" "GoldPlate$Mark" "second" "I" ∈ gp_ws := gp_in1 (i := 85) rfl rfl
theorem iw_1_88 : Cond.arrayClass .int ∈ gp_ws := gp_in1 (i := 88) rfl rfl
theorem iw_1_89 : Cond.fieldLink "GoldPlate$Plate" 11 "GoldPlate$Plate" "marks" "[LGoldPlate$Mark;" ∈ gp_ws := gp_in1 (i := 89) rfl rfl
theorem iw_1_90 : Cond.fieldLink "GoldPlate$Search" 52 "GoldPlate$Plate" "marks" "[LGoldPlate$Mark;" ∈ gp_ws := gp_in1 (i := 90) rfl rfl
theorem iw_1_91 : Cond.fieldLink "GoldPlate" 94 "GoldPlate$Plate" "marks" "[LGoldPlate$Mark;" ∈ gp_ws := gp_in1 (i := 91) rfl rfl
theorem iw_1_92 : Cond.fieldLink "GoldPlate$Chooser" 80 "GoldPlate$Plate" "marks" "[LGoldPlate$Mark;" ∈ gp_ws := gp_in1 (i := 92) rfl rfl
theorem iw_1_93 : Cond.fieldLink "GoldPlate$Plate" 17 "GoldPlate$Plate" "hardness" "[I" ∈ gp_ws := gp_in1 (i := 93) rfl rfl
theorem iw_1_94 : Cond.fieldLink "GoldPlate" 148 "GoldPlate$Plate" "hardness" "[I" ∈ gp_ws := gp_in1 (i := 94) rfl rfl
theorem iw_1_95 : Cond.fieldLink "GoldPlate$Plate" 21 "GoldPlate$Plate" "chains" "[I" ∈ gp_ws := gp_in1 (i := 95) rfl rfl
theorem iw_1_96 : Cond.fieldLink "GoldPlate$Chooser" 29 "GoldPlate$Plate" "size" "I" ∈ gp_ws := gp_in1 (i := 96) rfl rfl
theorem iw_1_97 : Cond.fieldLink "GoldPlate$Plate" 25 "GoldPlate$Plate" "size" "I" ∈ gp_ws := gp_in1 (i := 97) rfl rfl
theorem iw_1_98 : Cond.fieldLink "GoldPlate" 90 "GoldPlate$Plate" "size" "I" ∈ gp_ws := gp_in1 (i := 98) rfl rfl
theorem iw_1_99 : Cond.fieldLink "GoldPlate$Chooser" 69 "GoldPlate$Plate" "now" "I" ∈ gp_ws := gp_in1 (i := 99) rfl rfl
theorem iw_1_100 : Cond.fieldLink "GoldPlate$Plate" 32 "GoldPlate$Plate" "now" "I" ∈ gp_ws := gp_in1 (i := 100) rfl rfl
theorem iw_1_101 : Cond.fieldLink "GoldPlate" 152 "GoldPlate$Plate" "now" "I" ∈ gp_ws := gp_in1 (i := 101) rfl rfl
theorem iw_1_102 : Cond.laysFinal "GoldPlate$Plate" "GoldPlate$Plate" "marks" "[LGoldPlate$Mark;" ∈ gp_ws := gp_in1 (i := 102) rfl rfl
theorem iw_1_104 : Cond.laysFinal "GoldPlate$Plate" "GoldPlate$Plate" "hardness" "[I" ∈ gp_ws := gp_in1 (i := 104) rfl rfl
theorem iw_1_106 : Cond.laysFinal "GoldPlate$Plate" "GoldPlate$Plate" "chains" "[I" ∈ gp_ws := gp_in1 (i := 106) rfl rfl
theorem iw_1_108 : Cond.lays "GoldPlate$Plate" "GoldPlate$Plate" "size" "I" ∈ gp_ws := gp_in1 (i := 108) rfl rfl
theorem iw_1_110 : Cond.lays "GoldPlate$Plate" "GoldPlate$Plate" "now" "I" ∈ gp_ws := gp_in1 (i := 110) rfl rfl
theorem iw_1_113 : Cond.classLink "GoldPlate" 12 "GoldPlate$Mind" ∈ gp_ws := gp_in1 (i := 113) rfl rfl
theorem iw_1_115 : Cond.instantiable "GoldPlate$Mind" 14 ∈ gp_ws := gp_in1 (i := 115) rfl rfl
theorem iw_1_117 : Cond.instanceMethod ⟨"GoldPlate$Mind", "<init>", "()V"⟩ ∈ gp_ws := gp_in1 (i := 117) rfl rfl
theorem iw_1_118 : Cond.code ⟨"GoldPlate$Mind", "<init>", "()V"⟩ prog_5_method_1_code 1 none ∈ gp_ws := gp_in1 (i := 118) rfl rfl
theorem iw_1_119 : Cond.methodLink "GoldPlate$Mind" 3 ⟨"java/lang/Object", "<init>", "()V"⟩ ∈ gp_ws := gp_in1 (i := 119) rfl rfl
theorem iw_1_120 : Cond.fieldLink "GoldPlate$Mind" 9 "GoldPlate$Mind" "code" "[I" ∈ gp_ws := gp_in1 (i := 120) rfl rfl
theorem iw_1_121 : Cond.fieldLink "GoldPlate$Parser" 185 "GoldPlate$Mind" "code" "[I" ∈ gp_ws := gp_in1 (i := 121) rfl rfl
theorem iw_1_122 : Cond.fieldLink "GoldPlate$Mind" 15 "GoldPlate$Mind" "priceFrom" "[I" ∈ gp_ws := gp_in1 (i := 122) rfl rfl
theorem iw_1_123 : Cond.fieldLink "GoldPlate$Parser" 129 "GoldPlate$Mind" "priceFrom" "[I" ∈ gp_ws := gp_in1 (i := 123) rfl rfl
theorem iw_1_124 : Cond.fieldLink "GoldPlate$Mind" 18 "GoldPlate$Mind" "priceWhen" "[I" ∈ gp_ws := gp_in1 (i := 124) rfl rfl
theorem iw_1_125 : Cond.fieldLink "GoldPlate$Parser" 138 "GoldPlate$Mind" "priceWhen" "[I" ∈ gp_ws := gp_in1 (i := 125) rfl rfl
theorem iw_1_126 : Cond.fieldLink "GoldPlate$Mind" 21 "GoldPlate$Mind" "priceTo" "[I" ∈ gp_ws := gp_in1 (i := 126) rfl rfl
theorem iw_1_127 : Cond.fieldLink "GoldPlate$Parser" 144 "GoldPlate$Mind" "priceTo" "[I" ∈ gp_ws := gp_in1 (i := 127) rfl rfl
theorem iw_1_128 : Cond.fieldLink "GoldPlate$Mind" 24 "GoldPlate$Mind" "senses" "I" ∈ gp_ws := gp_in1 (i := 128) rfl rfl
theorem iw_1_129 : Cond.fieldLink "GoldPlate$Plate" 54 "GoldPlate$Mind" "senses" "I" ∈ gp_ws := gp_in1 (i := 129) rfl rfl
theorem iw_1_130 : Cond.fieldLink "GoldPlate$Parser" 159 "GoldPlate$Mind" "senses" "I" ∈ gp_ws := gp_in1 (i := 130) rfl rfl
theorem iw_1_131 : Cond.fieldLink "GoldPlate$Mind" 28 "GoldPlate$Mind" "knows" "I" ∈ gp_ws := gp_in1 (i := 131) rfl rfl
theorem iw_1_132 : Cond.fieldLink "GoldPlate$Search" 77 "GoldPlate$Mind" "knows" "I" ∈ gp_ws := gp_in1 (i := 132) rfl rfl
theorem iw_1_133 : Cond.fieldLink "GoldPlate$Plate" 63 "GoldPlate$Mind" "knows" "I" ∈ gp_ws := gp_in1 (i := 133) rfl rfl
theorem iw_1_134 : Cond.fieldLink "GoldPlate$Parser" 162 "GoldPlate$Mind" "knows" "I" ∈ gp_ws := gp_in1 (i := 134) rfl rfl
theorem iw_1_135 : Cond.fieldLink "GoldPlate$Mind" 31 "GoldPlate$Mind" "hand" "I" ∈ gp_ws := gp_in1 (i := 135) rfl rfl
theorem iw_1_136 : Cond.fieldLink "GoldPlate$Parser" 165 "GoldPlate$Mind" "hand" "I" ∈ gp_ws := gp_in1 (i := 136) rfl rfl
theorem iw_1_137 : Cond.fieldLink "GoldPlate" 263 "GoldPlate$Mind" "hand" "I" ∈ gp_ws := gp_in1 (i := 137) rfl rfl
theorem iw_1_138 : Cond.fieldLink "GoldPlate$Mind" 34 "GoldPlate$Mind" "lines" "I" ∈ gp_ws := gp_in1 (i := 138) rfl rfl
theorem iw_1_139 : Cond.fieldLink "GoldPlate$Parser" 123 "GoldPlate$Mind" "lines" "I" ∈ gp_ws := gp_in1 (i := 139) rfl rfl
theorem iw_1_140 : Cond.fieldLink "GoldPlate" 203 "GoldPlate$Mind" "lines" "I" ∈ gp_ws := gp_in1 (i := 140) rfl rfl
theorem iw_1_141 : Cond.fieldLink "GoldPlate$Mind" 37 "GoldPlate$Mind" "prices" "I" ∈ gp_ws := gp_in1 (i := 141) rfl rfl
theorem iw_1_142 : Cond.fieldLink "GoldPlate$Parser" 126 "GoldPlate$Mind" "prices" "I" ∈ gp_ws := gp_in1 (i := 142) rfl rfl
theorem iw_1_143 : Cond.fieldLink "GoldPlate$Mind" 40 "GoldPlate$Mind" "codeSize" "I" ∈ gp_ws := gp_in1 (i := 143) rfl rfl
theorem iw_1_144 : Cond.fieldLink "GoldPlate$Parser" 132 "GoldPlate$Mind" "codeSize" "I" ∈ gp_ws := gp_in1 (i := 144) rfl rfl
theorem iw_1_145 : Cond.fieldLink "GoldPlate$Mind" 43 "GoldPlate$Mind" "tryFrom" "I" ∈ gp_ws := gp_in1 (i := 145) rfl rfl
theorem iw_1_146 : Cond.fieldLink "GoldPlate$Parser" 147 "GoldPlate$Mind" "tryFrom" "I" ∈ gp_ws := gp_in1 (i := 146) rfl rfl
theorem iw_1_147 : Cond.fieldLink "GoldPlate$Mind" 46 "GoldPlate$Mind" "tryTo" "I" ∈ gp_ws := gp_in1 (i := 147) rfl rfl
theorem iw_1_148 : Cond.fieldLink "GoldPlate$Parser" 150 "GoldPlate$Mind" "tryTo" "I" ∈ gp_ws := gp_in1 (i := 148) rfl rfl
theorem iw_1_149 : Cond.fieldLink "GoldPlate$Mind" 49 "GoldPlate$Mind" "twinned" "Z" ∈ gp_ws := gp_in1 (i := 149) rfl rfl
theorem iw_1_150 : Cond.fieldLink "GoldPlate$Parser" 116 "GoldPlate$Mind" "twinned" "Z" ∈ gp_ws := gp_in1 (i := 150) rfl rfl
theorem iw_1_151 : Cond.fieldLink "GoldPlate$Mind" 53 "GoldPlate$Mind" "tries" "Z" ∈ gp_ws := gp_in1 (i := 151) rfl rfl
theorem iw_1_152 : Cond.fieldLink "GoldPlate$Parser" 120 "GoldPlate$Mind" "tries" "Z" ∈ gp_ws := gp_in1 (i := 152) rfl rfl
theorem iw_1_153 : Cond.laysFinal "GoldPlate$Mind" "GoldPlate$Mind" "code" "[I" ∈ gp_ws := gp_in1 (i := 153) rfl rfl
theorem iw_1_155 : Cond.laysFinal "GoldPlate$Mind" "GoldPlate$Mind" "priceFrom" "[I" ∈ gp_ws := gp_in1 (i := 155) rfl rfl
theorem iw_1_157 : Cond.laysFinal "GoldPlate$Mind" "GoldPlate$Mind" "priceWhen" "[I" ∈ gp_ws := gp_in1 (i := 157) rfl rfl
theorem iw_1_159 : Cond.laysFinal "GoldPlate$Mind" "GoldPlate$Mind" "priceTo" "[I" ∈ gp_ws := gp_in1 (i := 159) rfl rfl
theorem iw_1_161 : Cond.lays "GoldPlate$Mind" "GoldPlate$Mind" "senses" "I" ∈ gp_ws := gp_in1 (i := 161) rfl rfl
theorem iw_1_163 : Cond.lays "GoldPlate$Mind" "GoldPlate$Mind" "knows" "I" ∈ gp_ws := gp_in1 (i := 163) rfl rfl
theorem iw_1_165 : Cond.lays "GoldPlate$Mind" "GoldPlate$Mind" "hand" "I" ∈ gp_ws := gp_in1 (i := 165) rfl rfl
theorem iw_1_167 : Cond.lays "GoldPlate$Mind" "GoldPlate$Mind" "lines" "I" ∈ gp_ws := gp_in1 (i := 167) rfl rfl
theorem iw_1_169 : Cond.lays "GoldPlate$Mind" "GoldPlate$Mind" "prices" "I" ∈ gp_ws := gp_in1 (i := 169) rfl rfl
theorem iw_1_171 : Cond.lays "GoldPlate$Mind" "GoldPlate$Mind" "codeSize" "I" ∈ gp_ws := gp_in1 (i := 171) rfl rfl
theorem iw_1_173 : Cond.lays "GoldPlate$Mind" "GoldPlate$Mind" "tryFrom" "I" ∈ gp_ws := gp_in1 (i := 173) rfl rfl
theorem iw_1_175 : Cond.lays "GoldPlate$Mind" "GoldPlate$Mind" "tryTo" "I" ∈ gp_ws := gp_in1 (i := 175) rfl rfl
theorem iw_1_177 : Cond.lays "GoldPlate$Mind" "GoldPlate$Mind" "twinned" "Z" ∈ gp_ws := gp_in1 (i := 177) rfl rfl
theorem iw_1_179 : Cond.lays "GoldPlate$Mind" "GoldPlate$Mind" "tries" "Z" ∈ gp_ws := gp_in1 (i := 179) rfl rfl
theorem iw_1_182 : Cond.classLink "GoldPlate" 15 "GoldPlate$Sums" ∈ gp_ws := gp_in1 (i := 182) rfl rfl
theorem iw_1_183 : Cond.instantiable "GoldPlate$Sums" 3 ∈ gp_ws := gp_in1 (i := 183) rfl rfl
theorem iw_1_185 : Cond.instanceMethod ⟨"GoldPlate$Sums", "<init>", "()V"⟩ ∈ gp_ws := gp_in1 (i := 185) rfl rfl
theorem iw_1_186 : Cond.code ⟨"GoldPlate$Sums", "<init>", "()V"⟩ prog_10_method_1_code 1 none ∈ gp_ws := gp_in1 (i := 186) rfl rfl
theorem iw_1_187 : Cond.methodLink "GoldPlate$Sums" 1 ⟨"java/lang/Object", "<init>", "()V"⟩ ∈ gp_ws := gp_in1 (i := 187) rfl rfl
theorem iw_1_188 : Cond.fieldLink "GoldPlate$Sums" 9 "GoldPlate$Sums" "values" "[I" ∈ gp_ws := gp_in1 (i := 188) rfl rfl
theorem iw_1_189 : Cond.fieldLink "GoldPlate$Widths" 46 "GoldPlate$Sums" "values" "[I" ∈ gp_ws := gp_in1 (i := 189) rfl rfl
theorem iw_1_190 : Cond.fieldLink "GoldPlate$Search" 94 "GoldPlate$Sums" "values" "[I" ∈ gp_ws := gp_in1 (i := 190) rfl rfl
theorem iw_1_191 : Cond.fieldLink "GoldPlate$Sums" 13 "GoldPlate$Sums" "stack" "[I" ∈ gp_ws := gp_in1 (i := 191) rfl rfl
theorem iw_1_192 : Cond.fieldLink "GoldPlate$Sums" 16 "GoldPlate$Sums" "top" "I" ∈ gp_ws := gp_in1 (i := 192) rfl rfl
theorem iw_1_193 : Cond.laysFinal "GoldPlate$Sums" "GoldPlate$Sums" "values" "[I" ∈ gp_ws := gp_in1 (i := 193) rfl rfl
theorem iw_1_195 : Cond.laysFinal "GoldPlate$Sums" "GoldPlate$Sums" "stack" "[I" ∈ gp_ws := gp_in1 (i := 195) rfl rfl
theorem iw_1_197 : Cond.lays "GoldPlate$Sums" "GoldPlate$Sums" "top" "I" ∈ gp_ws := gp_in1 (i := 197) rfl rfl
theorem iw_1_200 : Cond.classLink "GoldPlate" 30 "GoldPlate$Parser" ∈ gp_ws := gp_in1 (i := 200) rfl rfl
theorem iw_1_201 : Cond.instantiable "GoldPlate$Parser" 10 ∈ gp_ws := gp_in1 (i := 201) rfl rfl
theorem iw_1_203 : Cond.instanceMethod ⟨"GoldPlate$Parser", "<init>", "()V"⟩ ∈ gp_ws := gp_in1 (i := 203) rfl rfl
theorem iw_1_204 : Cond.code ⟨"GoldPlate$Parser", "<init>", "()V"⟩ prog_6_method_1_code 1 none ∈ gp_ws := gp_in1 (i := 204) rfl rfl
theorem iw_1_205 : Cond.methodLink "GoldPlate$Parser" 3 ⟨"java/lang/Object", "<init>", "()V"⟩ ∈ gp_ws := gp_in1 (i := 205) rfl rfl
theorem iw_1_206 : Cond.classLink "GoldPlate$Parser" 28 "GoldPlate$Mind" ∈ gp_ws := gp_in1 (i := 206) rfl rfl
theorem iw_1_208 : Cond.fieldLink "GoldPlate$Parser" 9 "GoldPlate$Parser" "bytes" "[I" ∈ gp_ws := gp_in1 (i := 208) rfl rfl
theorem iw_1_209 : Cond.fieldLink "GoldPlate$Parser" 15 "GoldPlate$Parser" "kinds" "[I" ∈ gp_ws := gp_in1 (i := 209) rfl rfl
theorem iw_1_210 : Cond.fieldLink "GoldPlate$Parser" 18 "GoldPlate$Parser" "numbers" "[I" ∈ gp_ws := gp_in1 (i := 210) rfl rfl
theorem iw_1_211 : Cond.fieldLink "GoldPlate$Parser" 21 "GoldPlate$Parser" "spots" "[I" ∈ gp_ws := gp_in1 (i := 211) rfl rfl
theorem iw_1_212 : Cond.fieldLink "GoldPlate$Parser" 35 "GoldPlate$Parser" "size" "I" ∈ gp_ws := gp_in1 (i := 212) rfl rfl
theorem iw_1_213 : Cond.fieldLink "GoldPlate" 181 "GoldPlate$Parser" "size" "I" ∈ gp_ws := gp_in1 (i := 213) rfl rfl
theorem iw_1_214 : Cond.fieldLink "GoldPlate$Parser" 41 "GoldPlate$Parser" "tokens" "I" ∈ gp_ws := gp_in1 (i := 214) rfl rfl
theorem iw_1_215 : Cond.fieldLink "GoldPlate$Parser" 100 "GoldPlate$Parser" "at" "I" ∈ gp_ws := gp_in1 (i := 215) rfl rfl
theorem iw_1_216 : Cond.fieldLink "GoldPlate$Parser" 38 "GoldPlate$Parser" "fault" "I" ∈ gp_ws := gp_in1 (i := 216) rfl rfl
theorem iw_1_217 : Cond.fieldLink "GoldPlate" 206 "GoldPlate$Parser" "fault" "I" ∈ gp_ws := gp_in1 (i := 217) rfl rfl
theorem iw_1_218 : Cond.fieldLink "GoldPlate$Parser" 24 "GoldPlate$Parser" "faultPlace" "I" ∈ gp_ws := gp_in1 (i := 218) rfl rfl
theorem iw_1_219 : Cond.fieldLink "GoldPlate" 209 "GoldPlate$Parser" "faultPlace" "I" ∈ gp_ws := gp_in1 (i := 219) rfl rfl
theorem iw_1_220 : Cond.fieldLink "GoldPlate$Parser" 31 "GoldPlate$Parser" "draft" "LGoldPlate$Mind;" ∈ gp_ws := gp_in1 (i := 220) rfl rfl
theorem iw_1_221 : Cond.fieldLink "GoldPlate" 199 "GoldPlate$Parser" "draft" "LGoldPlate$Mind;" ∈ gp_ws := gp_in1 (i := 221) rfl rfl
theorem iw_1_222 : Cond.laysFinal "GoldPlate$Parser" "GoldPlate$Parser" "bytes" "[I" ∈ gp_ws := gp_in1 (i := 222) rfl rfl
theorem iw_1_224 : Cond.laysFinal "GoldPlate$Parser" "GoldPlate$Parser" "kinds" "[I" ∈ gp_ws := gp_in1 (i := 224) rfl rfl
theorem iw_1_226 : Cond.laysFinal "GoldPlate$Parser" "GoldPlate$Parser" "numbers" "[I" ∈ gp_ws := gp_in1 (i := 226) rfl rfl
theorem iw_1_228 : Cond.laysFinal "GoldPlate$Parser" "GoldPlate$Parser" "spots" "[I" ∈ gp_ws := gp_in1 (i := 228) rfl rfl
theorem iw_1_230 : Cond.lays "GoldPlate$Parser" "GoldPlate$Parser" "size" "I" ∈ gp_ws := gp_in1 (i := 230) rfl rfl
theorem iw_1_232 : Cond.lays "GoldPlate$Parser" "GoldPlate$Parser" "tokens" "I" ∈ gp_ws := gp_in1 (i := 232) rfl rfl
theorem iw_1_234 : Cond.lays "GoldPlate$Parser" "GoldPlate$Parser" "at" "I" ∈ gp_ws := gp_in1 (i := 234) rfl rfl
theorem iw_1_236 : Cond.lays "GoldPlate$Parser" "GoldPlate$Parser" "fault" "I" ∈ gp_ws := gp_in1 (i := 236) rfl rfl
theorem iw_1_238 : Cond.lays "GoldPlate$Parser" "GoldPlate$Parser" "faultPlace" "I" ∈ gp_ws := gp_in1 (i := 238) rfl rfl
theorem iw_2_0 : Cond.lays "GoldPlate$Parser" "GoldPlate$Parser" "draft" "LGoldPlate$Mind;" ∈ gp_ws := gp_in2 (i := 0) rfl rfl
theorem iw_2_3 : Cond.classLink "GoldPlate" 37 "GoldPlate$Search" ∈ gp_ws := gp_in2 (i := 3) rfl rfl
theorem iw_2_4 : Cond.instantiable "GoldPlate$Search" 13 ∈ gp_ws := gp_in2 (i := 4) rfl rfl
theorem iw_2_5 : Cond.methodLink "GoldPlate" 39 ⟨"GoldPlate$Search", "<init>", "(LGoldPlate$Plate;LGoldPlate$Sums;)V"⟩ ∈ gp_ws := gp_in2 (i := 5) rfl rfl
theorem iw_2_6 : Cond.instanceMethod ⟨"GoldPlate$Search", "<init>", "(LGoldPlate$Plate;LGoldPlate$Sums;)V"⟩ ∈ gp_ws := gp_in2 (i := 6) rfl rfl
theorem iw_2_7 : Cond.code ⟨"GoldPlate$Search", "<init>", "(LGoldPlate$Plate;LGoldPlate$Sums;)V"⟩ prog_8_method_1_code 3 none ∈ gp_ws := gp_in2 (i := 7) rfl rfl
theorem iw_2_8 : Cond.methodLink "GoldPlate$Search" 3 ⟨"java/lang/Object", "<init>", "()V"⟩ ∈ gp_ws := gp_in2 (i := 8) rfl rfl
theorem iw_2_9 : Cond.fieldLink "GoldPlate$Search" 30 "GoldPlate$Search" "plate" "LGoldPlate$Plate;" ∈ gp_ws := gp_in2 (i := 9) rfl rfl
theorem iw_2_10 : Cond.fieldLink "GoldPlate$Search" 34 "GoldPlate$Search" "sums" "LGoldPlate$Sums;" ∈ gp_ws := gp_in2 (i := 10) rfl rfl
theorem iw_2_11 : Cond.fieldLink "GoldPlate$Search" 9 "GoldPlate$Search" "marks" "[I" ∈ gp_ws := gp_in2 (i := 11) rfl rfl
theorem iw_2_12 : Cond.fieldLink "GoldPlate$Search" 15 "GoldPlate$Search" "allowed" "[I" ∈ gp_ws := gp_in2 (i := 12) rfl rfl
theorem iw_2_13 : Cond.fieldLink "GoldPlate$Search" 18 "GoldPlate$Search" "prices" "[I" ∈ gp_ws := gp_in2 (i := 13) rfl rfl
theorem iw_2_14 : Cond.fieldLink "GoldPlate$Search" 21 "GoldPlate$Search" "floors" "[I" ∈ gp_ws := gp_in2 (i := 14) rfl rfl
theorem iw_2_15 : Cond.fieldLink "GoldPlate$Search" 24 "GoldPlate$Search" "takings" "[I" ∈ gp_ws := gp_in2 (i := 15) rfl rfl
theorem iw_2_16 : Cond.fieldLink "GoldPlate$Search" 27 "GoldPlate$Search" "chosen" "[I" ∈ gp_ws := gp_in2 (i := 16) rfl rfl
theorem iw_2_17 : Cond.fieldLink "GoldPlate$Search" 44 "GoldPlate$Search" "size" "I" ∈ gp_ws := gp_in2 (i := 17) rfl rfl
theorem iw_2_18 : Cond.fieldLink "GoldPlate$Search" 124 "GoldPlate$Search" "limit" "I" ∈ gp_ws := gp_in2 (i := 18) rfl rfl
theorem iw_2_19 : Cond.fieldLink "GoldPlate$Search" 121 "GoldPlate$Search" "count" "I" ∈ gp_ws := gp_in2 (i := 19) rfl rfl
theorem iw_2_20 : Cond.fieldLink "GoldPlate$Search" 117 "GoldPlate$Search" "counting" "Z" ∈ gp_ws := gp_in2 (i := 20) rfl rfl
theorem iw_2_21 : Cond.fieldLink "GoldPlate$Search" 139 "GoldPlate$Search" "cheapestPrice" "I" ∈ gp_ws := gp_in2 (i := 21) rfl rfl
theorem iw_2_22 : Cond.fieldLink "GoldPlate" 226 "GoldPlate$Search" "cheapestPrice" "I" ∈ gp_ws := gp_in2 (i := 22) rfl rfl
theorem iw_2_23 : Cond.laysFinal "GoldPlate$Search" "GoldPlate$Search" "plate" "LGoldPlate$Plate;" ∈ gp_ws := gp_in2 (i := 23) rfl rfl
theorem iw_2_25 : Cond.laysFinal "GoldPlate$Search" "GoldPlate$Search" "sums" "LGoldPlate$Sums;" ∈ gp_ws := gp_in2 (i := 25) rfl rfl
theorem iw_2_27 : Cond.laysFinal "GoldPlate$Search" "GoldPlate$Search" "marks" "[I" ∈ gp_ws := gp_in2 (i := 27) rfl rfl
theorem iw_2_29 : Cond.laysFinal "GoldPlate$Search" "GoldPlate$Search" "allowed" "[I" ∈ gp_ws := gp_in2 (i := 29) rfl rfl
theorem iw_2_31 : Cond.laysFinal "GoldPlate$Search" "GoldPlate$Search" "prices" "[I" ∈ gp_ws := gp_in2 (i := 31) rfl rfl
theorem iw_2_33 : Cond.laysFinal "GoldPlate$Search" "GoldPlate$Search" "floors" "[I" ∈ gp_ws := gp_in2 (i := 33) rfl rfl
theorem iw_2_35 : Cond.laysFinal "GoldPlate$Search" "GoldPlate$Search" "takings" "[I" ∈ gp_ws := gp_in2 (i := 35) rfl rfl
theorem iw_2_37 : Cond.laysFinal "GoldPlate$Search" "GoldPlate$Search" "chosen" "[I" ∈ gp_ws := gp_in2 (i := 37) rfl rfl
theorem iw_2_39 : Cond.lays "GoldPlate$Search" "GoldPlate$Search" "size" "I" ∈ gp_ws := gp_in2 (i := 39) rfl rfl
theorem iw_2_41 : Cond.lays "GoldPlate$Search" "GoldPlate$Search" "limit" "I" ∈ gp_ws := gp_in2 (i := 41) rfl rfl
theorem iw_2_43 : Cond.lays "GoldPlate$Search" "GoldPlate$Search" "count" "I" ∈ gp_ws := gp_in2 (i := 43) rfl rfl
theorem iw_2_45 : Cond.lays "GoldPlate$Search" "GoldPlate$Search" "counting" "Z" ∈ gp_ws := gp_in2 (i := 45) rfl rfl
theorem iw_2_47 : Cond.lays "GoldPlate$Search" "GoldPlate$Search" "cheapestPrice" "I" ∈ gp_ws := gp_in2 (i := 47) rfl rfl
theorem iw_2_50 : Cond.classLink "GoldPlate" 46 "GoldPlate$Chooser" ∈ gp_ws := gp_in2 (i := 50) rfl rfl
theorem iw_2_51 : Cond.instantiable "GoldPlate$Chooser" 12 ∈ gp_ws := gp_in2 (i := 51) rfl rfl
theorem iw_2_52 : Cond.methodLink "GoldPlate" 48 ⟨"GoldPlate$Chooser", "<init>", "(LGoldPlate$Plate;[LGoldPlate$Mind;)V"⟩ ∈ gp_ws := gp_in2 (i := 52) rfl rfl
theorem iw_2_53 : Cond.instanceMethod ⟨"GoldPlate$Chooser", "<init>", "(LGoldPlate$Plate;[LGoldPlate$Mind;)V"⟩ ∈ gp_ws := gp_in2 (i := 53) rfl rfl
theorem iw_2_54 : Cond.code ⟨"GoldPlate$Chooser", "<init>", "(LGoldPlate$Plate;[LGoldPlate$Mind;)V"⟩ prog_3_method_1_code 3 none ∈ gp_ws := gp_in2 (i := 54) rfl rfl
theorem iw_2_55 : Cond.methodLink "GoldPlate$Chooser" 3 ⟨"java/lang/Object", "<init>", "()V"⟩ ∈ gp_ws := gp_in2 (i := 55) rfl rfl
theorem iw_2_56 : Cond.fieldLink "GoldPlate$Chooser" 21 "GoldPlate$Chooser" "plate" "LGoldPlate$Plate;" ∈ gp_ws := gp_in2 (i := 56) rfl rfl
theorem iw_2_57 : Cond.fieldLink "GoldPlate$Chooser" 25 "GoldPlate$Chooser" "minds" "[LGoldPlate$Mind;" ∈ gp_ws := gp_in2 (i := 57) rfl rfl
theorem iw_2_58 : Cond.fieldLink "GoldPlate$Chooser" 9 "GoldPlate$Chooser" "able" "[I" ∈ gp_ws := gp_in2 (i := 58) rfl rfl
theorem iw_2_59 : Cond.fieldLink "GoldPlate$Chooser" 15 "GoldPlate$Chooser" "rights" "[I" ∈ gp_ws := gp_in2 (i := 59) rfl rfl
theorem iw_2_60 : Cond.fieldLink "GoldPlate$Chooser" 18 "GoldPlate$Chooser" "things" "[I" ∈ gp_ws := gp_in2 (i := 60) rfl rfl
theorem iw_2_61 : Cond.fieldLink "GoldPlate$Chooser" 58 "GoldPlate$Chooser" "asked" "I" ∈ gp_ws := gp_in2 (i := 61) rfl rfl
theorem iw_2_62 : Cond.fieldLink "GoldPlate$Chooser" 41 "GoldPlate$Chooser" "size" "I" ∈ gp_ws := gp_in2 (i := 62) rfl rfl
theorem iw_2_63 : Cond.fieldLink "GoldPlate$Chooser" 42 "GoldPlate$Chooser" "budget" "I" ∈ gp_ws := gp_in2 (i := 63) rfl rfl
theorem iw_2_64 : Cond.fieldLink "GoldPlate$Chooser" 45 "GoldPlate$Chooser" "worst" "Z" ∈ gp_ws := gp_in2 (i := 64) rfl rfl
theorem iw_2_65 : Cond.fieldLink "GoldPlate$Chooser" 52 "GoldPlate$Chooser" "bestCost" "I" ∈ gp_ws := gp_in2 (i := 65) rfl rfl
theorem iw_2_66 : Cond.fieldLink "GoldPlate$Chooser" 49 "GoldPlate$Chooser" "bestSet" "I" ∈ gp_ws := gp_in2 (i := 66) rfl rfl
theorem iw_2_67 : Cond.fieldLink "GoldPlate" 319 "GoldPlate$Chooser" "bestSet" "I" ∈ gp_ws := gp_in2 (i := 67) rfl rfl
theorem iw_2_68 : Cond.fieldLink "GoldPlate$Chooser" 55 "GoldPlate$Chooser" "bestScore" "I" ∈ gp_ws := gp_in2 (i := 68) rfl rfl
theorem iw_2_69 : Cond.fieldLink "GoldPlate" 322 "GoldPlate$Chooser" "bestScore" "I" ∈ gp_ws := gp_in2 (i := 69) rfl rfl
theorem iw_2_70 : Cond.laysFinal "GoldPlate$Chooser" "GoldPlate$Chooser" "plate" "LGoldPlate$Plate;" ∈ gp_ws := gp_in2 (i := 70) rfl rfl
theorem iw_2_72 : Cond.laysFinal "GoldPlate$Chooser" "GoldPlate$Chooser" "minds" "[LGoldPlate$Mind;" ∈ gp_ws := gp_in2 (i := 72) rfl rfl
theorem iw_2_74 : Cond.laysFinal "GoldPlate$Chooser" "GoldPlate$Chooser" "able" "[I" ∈ gp_ws := gp_in2 (i := 74) rfl rfl
theorem iw_2_76 : Cond.laysFinal "GoldPlate$Chooser" "GoldPlate$Chooser" "rights" "[I" ∈ gp_ws := gp_in2 (i := 76) rfl rfl
theorem iw_2_78 : Cond.laysFinal "GoldPlate$Chooser" "GoldPlate$Chooser" "things" "[I" ∈ gp_ws := gp_in2 (i := 78) rfl rfl
theorem iw_2_80 : Cond.lays "GoldPlate$Chooser" "GoldPlate$Chooser" "asked" "I" ∈ gp_ws := gp_in2 (i := 80) rfl rfl
theorem iw_2_82 : Cond.lays "GoldPlate$Chooser" "GoldPlate$Chooser" "size" "I" ∈ gp_ws := gp_in2 (i := 82) rfl rfl
theorem iw_2_84 : Cond.lays "GoldPlate$Chooser" "GoldPlate$Chooser" "budget" "I" ∈ gp_ws := gp_in2 (i := 84) rfl rfl
theorem iw_2_86 : Cond.lays "GoldPlate$Chooser" "GoldPlate$Chooser" "worst" "Z" ∈ gp_ws := gp_in2 (i := 86) rfl rfl
theorem iw_2_88 : Cond.lays "GoldPlate$Chooser" "GoldPlate$Chooser" "bestCost" "I" ∈ gp_ws := gp_in2 (i := 88) rfl rfl
theorem iw_2_90 : Cond.lays "GoldPlate$Chooser" "GoldPlate$Chooser" "bestSet" "I" ∈ gp_ws := gp_in2 (i := 90) rfl rfl
theorem iw_2_92 : Cond.lays "GoldPlate$Chooser" "GoldPlate$Chooser" "bestScore" "I" ∈ gp_ws := gp_in2 (i := 92) rfl rfl
theorem iw_2_95 : Cond.classLink "GoldPlate" 55 "GoldPlate$BitRow" ∈ gp_ws := gp_in2 (i := 95) rfl rfl
theorem iw_2_96 : Cond.instantiable "GoldPlate$BitRow" 2 ∈ gp_ws := gp_in2 (i := 96) rfl rfl
theorem iw_2_98 : Cond.instanceMethod ⟨"GoldPlate$BitRow", "<init>", "()V"⟩ ∈ gp_ws := gp_in2 (i := 98) rfl rfl
theorem iw_2_99 : Cond.code ⟨"GoldPlate$BitRow", "<init>", "()V"⟩ prog_2_method_1_code 1 none ∈ gp_ws := gp_in2 (i := 99) rfl rfl
theorem iw_2_100 : Cond.methodLink "GoldPlate$BitRow" 3 ⟨"java/lang/Object", "<init>", "()V"⟩ ∈ gp_ws := gp_in2 (i := 100) rfl rfl
theorem iw_2_101 : Cond.fieldLink "GoldPlate$BitRow" 11 "GoldPlate$BitRow" "bits" "[B" ∈ gp_ws := gp_in2 (i := 101) rfl rfl
theorem iw_2_102 : Cond.fieldLink "GoldPlate$BitRow" 15 "GoldPlate$BitRow" "size" "I" ∈ gp_ws := gp_in2 (i := 102) rfl rfl
theorem iw_2_103 : Cond.fieldLink "GoldPlate$Widths" 20 "GoldPlate$BitRow" "size" "I" ∈ gp_ws := gp_in2 (i := 103) rfl rfl
theorem iw_2_104 : Cond.fieldLink "GoldPlate" 262 "GoldPlate$BitRow" "size" "I" ∈ gp_ws := gp_in2 (i := 104) rfl rfl
theorem iw_2_105 : Cond.laysFinal "GoldPlate$BitRow" "GoldPlate$BitRow" "bits" "[B" ∈ gp_ws := gp_in2 (i := 105) rfl rfl
theorem iw_2_107 : Cond.lays "GoldPlate$BitRow" "GoldPlate$BitRow" "size" "I" ∈ gp_ws := gp_in2 (i := 107) rfl rfl
theorem iw_2_110 : Cond.arrayClass .byte ∈ gp_ws := gp_in2 (i := 110) rfl rfl
theorem iw_2_111 : Cond.classLink "GoldPlate" 65 "GoldPlate$Widths" ∈ gp_ws := gp_in2 (i := 111) rfl rfl
theorem iw_2_112 : Cond.instantiable "GoldPlate$Widths" 3 ∈ gp_ws := gp_in2 (i := 112) rfl rfl
theorem iw_2_114 : Cond.instanceMethod ⟨"GoldPlate$Widths", "<init>", "()V"⟩ ∈ gp_ws := gp_in2 (i := 114) rfl rfl
theorem iw_2_115 : Cond.code ⟨"GoldPlate$Widths", "<init>", "()V"⟩ prog_12_method_1_code 1 none ∈ gp_ws := gp_in2 (i := 115) rfl rfl
theorem iw_2_116 : Cond.methodLink "GoldPlate$Widths" 1 ⟨"java/lang/Object", "<init>", "()V"⟩ ∈ gp_ws := gp_in2 (i := 116) rfl rfl
theorem iw_2_117 : Cond.fieldLink "GoldPlate$Widths" 9 "GoldPlate$Widths" "widths" "[I" ∈ gp_ws := gp_in2 (i := 117) rfl rfl
theorem iw_2_118 : Cond.fieldLink "GoldPlate" 256 "GoldPlate$Widths" "widths" "[I" ∈ gp_ws := gp_in2 (i := 118) rfl rfl
theorem iw_2_119 : Cond.fieldLink "GoldPlate$Widths" 13 "GoldPlate$Widths" "ranks" "[I" ∈ gp_ws := gp_in2 (i := 119) rfl rfl
theorem iw_2_120 : Cond.fieldLink "GoldPlate$Widths" 16 "GoldPlate$Widths" "count" "I" ∈ gp_ws := gp_in2 (i := 120) rfl rfl
theorem iw_2_121 : Cond.fieldLink "GoldPlate" 253 "GoldPlate$Widths" "count" "I" ∈ gp_ws := gp_in2 (i := 121) rfl rfl
theorem iw_2_122 : Cond.laysFinal "GoldPlate$Widths" "GoldPlate$Widths" "widths" "[I" ∈ gp_ws := gp_in2 (i := 122) rfl rfl
theorem iw_2_124 : Cond.laysFinal "GoldPlate$Widths" "GoldPlate$Widths" "ranks" "[I" ∈ gp_ws := gp_in2 (i := 124) rfl rfl
theorem iw_2_126 : Cond.lays "GoldPlate$Widths" "GoldPlate$Widths" "count" "I" ∈ gp_ws := gp_in2 (i := 126) rfl rfl
theorem iw_2_129 : Cond.classLink "GoldPlate" 72 "GoldPlate$Sky" ∈ gp_ws := gp_in2 (i := 129) rfl rfl
theorem iw_2_130 : Cond.instantiable "GoldPlate$Sky" 13 ∈ gp_ws := gp_in2 (i := 130) rfl rfl
theorem iw_2_132 : Cond.instanceMethod ⟨"GoldPlate$Sky", "<init>", "()V"⟩ ∈ gp_ws := gp_in2 (i := 132) rfl rfl
theorem iw_2_133 : Cond.code ⟨"GoldPlate$Sky", "<init>", "()V"⟩ prog_9_method_1_code 1 none ∈ gp_ws := gp_in2 (i := 133) rfl rfl
theorem iw_2_134 : Cond.methodLink "GoldPlate$Sky" 3 ⟨"java/lang/Object", "<init>", "()V"⟩ ∈ gp_ws := gp_in2 (i := 134) rfl rfl
theorem iw_2_135 : Cond.fieldLink "GoldPlate$Sky" 11 "GoldPlate$Sky" "periods" "[I" ∈ gp_ws := gp_in2 (i := 135) rfl rfl
theorem iw_2_136 : Cond.fieldLink "GoldPlate$Sky" 15 "GoldPlate$Sky" "slowers" "[I" ∈ gp_ws := gp_in2 (i := 136) rfl rfl
theorem iw_2_137 : Cond.fieldLink "GoldPlate$Sky" 18 "GoldPlate$Sky" "columns" "[I" ∈ gp_ws := gp_in2 (i := 137) rfl rfl
theorem iw_2_138 : Cond.fieldLink "GoldPlate$Sky" 21 "GoldPlate$Sky" "rows" "[I" ∈ gp_ws := gp_in2 (i := 138) rfl rfl
theorem iw_2_139 : Cond.fieldLink "GoldPlate$Sky" 24 "GoldPlate$Sky" "from" "[I" ∈ gp_ws := gp_in2 (i := 139) rfl rfl
theorem iw_2_140 : Cond.fieldLink "GoldPlate" 281 "GoldPlate$Sky" "from" "[I" ∈ gp_ws := gp_in2 (i := 140) rfl rfl
theorem iw_2_141 : Cond.fieldLink "GoldPlate$Sky" 27 "GoldPlate$Sky" "to" "[I" ∈ gp_ws := gp_in2 (i := 141) rfl rfl
theorem iw_2_142 : Cond.fieldLink "GoldPlate" 284 "GoldPlate$Sky" "to" "[I" ∈ gp_ws := gp_in2 (i := 142) rfl rfl
theorem iw_2_143 : Cond.fieldLink "GoldPlate$Sky" 30 "GoldPlate$Sky" "away" "[I" ∈ gp_ws := gp_in2 (i := 143) rfl rfl
theorem iw_2_144 : Cond.fieldLink "GoldPlate" 287 "GoldPlate$Sky" "away" "[I" ∈ gp_ws := gp_in2 (i := 144) rfl rfl
theorem iw_2_145 : Cond.fieldLink "GoldPlate$Sky" 33 "GoldPlate$Sky" "size" "I" ∈ gp_ws := gp_in2 (i := 145) rfl rfl
theorem iw_2_146 : Cond.fieldLink "GoldPlate" 369 "GoldPlate$Sky" "size" "I" ∈ gp_ws := gp_in2 (i := 146) rfl rfl
theorem iw_2_147 : Cond.fieldLink "GoldPlate$Sky" 37 "GoldPlate$Sky" "yearCount" "I" ∈ gp_ws := gp_in2 (i := 147) rfl rfl
theorem iw_2_148 : Cond.fieldLink "GoldPlate" 293 "GoldPlate$Sky" "yearCount" "I" ∈ gp_ws := gp_in2 (i := 148) rfl rfl
theorem iw_2_149 : Cond.fieldLink "GoldPlate$Sky" 40 "GoldPlate$Sky" "firstYear" "I" ∈ gp_ws := gp_in2 (i := 149) rfl rfl
theorem iw_2_150 : Cond.fieldLink "GoldPlate" 296 "GoldPlate$Sky" "firstYear" "I" ∈ gp_ws := gp_in2 (i := 150) rfl rfl
theorem iw_2_151 : Cond.fieldLink "GoldPlate$Sky" 43 "GoldPlate$Sky" "lastYear" "I" ∈ gp_ws := gp_in2 (i := 151) rfl rfl
theorem iw_2_152 : Cond.fieldLink "GoldPlate" 299 "GoldPlate$Sky" "lastYear" "I" ∈ gp_ws := gp_in2 (i := 152) rfl rfl
theorem iw_2_153 : Cond.fieldLink "GoldPlate$Sky" 60 "GoldPlate$Sky" "placeCount" "I" ∈ gp_ws := gp_in2 (i := 153) rfl rfl
theorem iw_2_154 : Cond.fieldLink "GoldPlate" 305 "GoldPlate$Sky" "placeCount" "I" ∈ gp_ws := gp_in2 (i := 154) rfl rfl
theorem iw_2_155 : Cond.fieldLink "GoldPlate$Sky" 63 "GoldPlate$Sky" "firstPlace" "I" ∈ gp_ws := gp_in2 (i := 155) rfl rfl
theorem iw_2_156 : Cond.fieldLink "GoldPlate" 308 "GoldPlate$Sky" "firstPlace" "I" ∈ gp_ws := gp_in2 (i := 156) rfl rfl
theorem iw_2_157 : Cond.laysFinal "GoldPlate$Sky" "GoldPlate$Sky" "periods" "[I" ∈ gp_ws := gp_in2 (i := 157) rfl rfl
theorem iw_2_159 : Cond.laysFinal "GoldPlate$Sky" "GoldPlate$Sky" "slowers" "[I" ∈ gp_ws := gp_in2 (i := 159) rfl rfl
theorem iw_2_161 : Cond.laysFinal "GoldPlate$Sky" "GoldPlate$Sky" "columns" "[I" ∈ gp_ws := gp_in2 (i := 161) rfl rfl
theorem iw_2_163 : Cond.laysFinal "GoldPlate$Sky" "GoldPlate$Sky" "rows" "[I" ∈ gp_ws := gp_in2 (i := 163) rfl rfl
theorem iw_2_165 : Cond.laysFinal "GoldPlate$Sky" "GoldPlate$Sky" "from" "[I" ∈ gp_ws := gp_in2 (i := 165) rfl rfl
theorem iw_2_167 : Cond.laysFinal "GoldPlate$Sky" "GoldPlate$Sky" "to" "[I" ∈ gp_ws := gp_in2 (i := 167) rfl rfl
theorem iw_2_169 : Cond.laysFinal "GoldPlate$Sky" "GoldPlate$Sky" "away" "[I" ∈ gp_ws := gp_in2 (i := 169) rfl rfl
theorem iw_2_171 : Cond.lays "GoldPlate$Sky" "GoldPlate$Sky" "size" "I" ∈ gp_ws := gp_in2 (i := 171) rfl rfl
theorem iw_2_173 : Cond.lays "GoldPlate$Sky" "GoldPlate$Sky" "yearCount" "I" ∈ gp_ws := gp_in2 (i := 173) rfl rfl
theorem iw_2_175 : Cond.lays "GoldPlate$Sky" "GoldPlate$Sky" "firstYear" "I" ∈ gp_ws := gp_in2 (i := 175) rfl rfl
theorem iw_2_177 : Cond.lays "GoldPlate$Sky" "GoldPlate$Sky" "lastYear" "I" ∈ gp_ws := gp_in2 (i := 177) rfl rfl
theorem iw_2_179 : Cond.lays "GoldPlate$Sky" "GoldPlate$Sky" "placeCount" "I" ∈ gp_ws := gp_in2 (i := 179) rfl rfl
theorem iw_2_181 : Cond.lays "GoldPlate$Sky" "GoldPlate$Sky" "firstPlace" "I" ∈ gp_ws := gp_in2 (i := 181) rfl rfl
theorem iw_2_184 : Cond.classLink "GoldPlate" 79 "GoldPlate$Trials" ∈ gp_ws := gp_in2 (i := 184) rfl rfl
theorem iw_2_185 : Cond.instantiable "GoldPlate$Trials" 4 ∈ gp_ws := gp_in2 (i := 185) rfl rfl
theorem iw_2_187 : Cond.instanceMethod ⟨"GoldPlate$Trials", "<init>", "()V"⟩ ∈ gp_ws := gp_in2 (i := 187) rfl rfl
theorem iw_2_188 : Cond.code ⟨"GoldPlate$Trials", "<init>", "()V"⟩ prog_11_method_1_code 1 none ∈ gp_ws := gp_in2 (i := 188) rfl rfl
theorem iw_2_189 : Cond.methodLink "GoldPlate$Trials" 3 ⟨"java/lang/Object", "<init>", "()V"⟩ ∈ gp_ws := gp_in2 (i := 189) rfl rfl
theorem iw_2_190 : Cond.fieldLink "GoldPlate$Trials" 11 "GoldPlate$Trials" "rows" "[J" ∈ gp_ws := gp_in2 (i := 190) rfl rfl
theorem iw_2_191 : Cond.fieldLink "GoldPlate" 347 "GoldPlate$Trials" "rows" "[J" ∈ gp_ws := gp_in2 (i := 191) rfl rfl
theorem iw_2_192 : Cond.fieldLink "GoldPlate$Trials" 15 "GoldPlate$Trials" "sizes" "[I" ∈ gp_ws := gp_in2 (i := 192) rfl rfl
theorem iw_2_193 : Cond.fieldLink "GoldPlate" 351 "GoldPlate$Trials" "sizes" "[I" ∈ gp_ws := gp_in2 (i := 193) rfl rfl
theorem iw_2_194 : Cond.fieldLink "GoldPlate$Trials" 19 "GoldPlate$Trials" "takings" "[I" ∈ gp_ws := gp_in2 (i := 194) rfl rfl
theorem iw_2_195 : Cond.fieldLink "GoldPlate" 357 "GoldPlate$Trials" "takings" "[I" ∈ gp_ws := gp_in2 (i := 195) rfl rfl
theorem iw_2_196 : Cond.fieldLink "GoldPlate$Trials" 22 "GoldPlate$Trials" "size" "I" ∈ gp_ws := gp_in2 (i := 196) rfl rfl
theorem iw_2_197 : Cond.fieldLink "GoldPlate" 346 "GoldPlate$Trials" "size" "I" ∈ gp_ws := gp_in2 (i := 197) rfl rfl
theorem iw_2_198 : Cond.laysFinal "GoldPlate$Trials" "GoldPlate$Trials" "rows" "[J" ∈ gp_ws := gp_in2 (i := 198) rfl rfl
theorem iw_2_200 : Cond.laysFinal "GoldPlate$Trials" "GoldPlate$Trials" "sizes" "[I" ∈ gp_ws := gp_in2 (i := 200) rfl rfl
theorem iw_2_202 : Cond.laysFinal "GoldPlate$Trials" "GoldPlate$Trials" "takings" "[I" ∈ gp_ws := gp_in2 (i := 202) rfl rfl
theorem iw_2_204 : Cond.lays "GoldPlate$Trials" "GoldPlate$Trials" "size" "I" ∈ gp_ws := gp_in2 (i := 204) rfl rfl
theorem iw_2_207 : Cond.arrayClass .long ∈ gp_ws := gp_in2 (i := 207) rfl rfl
theorem iw_2_208 : Cond.fieldLink "GoldPlate" 18 "GoldPlate" "plate" "LGoldPlate$Plate;" ∈ gp_ws := gp_in2 (i := 208) rfl rfl
theorem iw_2_209 : Cond.fieldLink "GoldPlate" 22 "GoldPlate" "minds" "[LGoldPlate$Mind;" ∈ gp_ws := gp_in2 (i := 209) rfl rfl
theorem iw_2_210 : Cond.fieldLink "GoldPlate" 33 "GoldPlate" "parser" "LGoldPlate$Parser;" ∈ gp_ws := gp_in2 (i := 210) rfl rfl
theorem iw_2_211 : Cond.fieldLink "GoldPlate" 26 "GoldPlate" "sums" "LGoldPlate$Sums;" ∈ gp_ws := gp_in2 (i := 211) rfl rfl
theorem iw_2_212 : Cond.fieldLink "GoldPlate" 42 "GoldPlate" "search" "LGoldPlate$Search;" ∈ gp_ws := gp_in2 (i := 212) rfl rfl
theorem iw_2_213 : Cond.fieldLink "GoldPlate" 51 "GoldPlate" "chooser" "LGoldPlate$Chooser;" ∈ gp_ws := gp_in2 (i := 213) rfl rfl
theorem iw_2_214 : Cond.fieldLink "GoldPlate" 58 "GoldPlate" "row" "LGoldPlate$BitRow;" ∈ gp_ws := gp_in2 (i := 214) rfl rfl
theorem iw_2_215 : Cond.fieldLink "GoldPlate" 62 "GoldPlate" "picture" "LGoldPlate$BitRow;" ∈ gp_ws := gp_in2 (i := 215) rfl rfl
theorem iw_2_216 : Cond.fieldLink "GoldPlate" 68 "GoldPlate" "folds" "LGoldPlate$Widths;" ∈ gp_ws := gp_in2 (i := 216) rfl rfl
theorem iw_2_217 : Cond.fieldLink "GoldPlate" 75 "GoldPlate" "sky" "LGoldPlate$Sky;" ∈ gp_ws := gp_in2 (i := 217) rfl rfl
theorem iw_2_218 : Cond.fieldLink "GoldPlate" 82 "GoldPlate" "trials" "LGoldPlate$Trials;" ∈ gp_ws := gp_in2 (i := 218) rfl rfl
theorem iw_2_219 : Cond.fieldLink "GoldPlate" 167 "GoldPlate" "message" "J" ∈ gp_ws := gp_in2 (i := 219) rfl rfl
theorem iw_2_220 : Cond.fieldLink "GoldPlate" 171 "GoldPlate" "messageSize" "I" ∈ gp_ws := gp_in2 (i := 220) rfl rfl
theorem iw_2_221 : Cond.laysFinal "GoldPlate" "GoldPlate" "plate" "LGoldPlate$Plate;" ∈ gp_ws := gp_in2 (i := 221) rfl rfl
theorem iw_2_223 : Cond.laysFinal "GoldPlate" "GoldPlate" "minds" "[LGoldPlate$Mind;" ∈ gp_ws := gp_in2 (i := 223) rfl rfl
theorem iw_2_225 : Cond.laysFinal "GoldPlate" "GoldPlate" "parser" "LGoldPlate$Parser;" ∈ gp_ws := gp_in2 (i := 225) rfl rfl
theorem iw_2_227 : Cond.laysFinal "GoldPlate" "GoldPlate" "sums" "LGoldPlate$Sums;" ∈ gp_ws := gp_in2 (i := 227) rfl rfl
theorem iw_2_229 : Cond.laysFinal "GoldPlate" "GoldPlate" "search" "LGoldPlate$Search;" ∈ gp_ws := gp_in2 (i := 229) rfl rfl
theorem iw_2_231 : Cond.laysFinal "GoldPlate" "GoldPlate" "chooser" "LGoldPlate$Chooser;" ∈ gp_ws := gp_in2 (i := 231) rfl rfl
theorem iw_2_233 : Cond.laysFinal "GoldPlate" "GoldPlate" "row" "LGoldPlate$BitRow;" ∈ gp_ws := gp_in2 (i := 233) rfl rfl
theorem iw_2_235 : Cond.laysFinal "GoldPlate" "GoldPlate" "picture" "LGoldPlate$BitRow;" ∈ gp_ws := gp_in2 (i := 235) rfl rfl
theorem iw_2_237 : Cond.laysFinal "GoldPlate" "GoldPlate" "folds" "LGoldPlate$Widths;" ∈ gp_ws := gp_in2 (i := 237) rfl rfl
theorem iw_2_239 : Cond.laysFinal "GoldPlate" "GoldPlate" "sky" "LGoldPlate$Sky;" ∈ gp_ws := gp_in2 (i := 239) rfl rfl
theorem iw_3_1 : Cond.laysFinal "GoldPlate" "GoldPlate" "trials" "LGoldPlate$Trials;" ∈ gp_ws := gp_in3 (i := 1) rfl rfl
theorem iw_3_3 : Cond.lays "GoldPlate" "GoldPlate" "message" "J" ∈ gp_ws := gp_in3 (i := 3) rfl rfl
theorem iw_3_5 : Cond.lays "GoldPlate" "GoldPlate" "messageSize" "I" ∈ gp_ws := gp_in3 (i := 5) rfl rfl
theorem iw_3_8 : Cond.methodLink "GoldPlateLaw" 13 ⟨"GoldPlate", "mark", "(IIIII)I"⟩ ∈ gp_ws := gp_in3 (i := 8) rfl rfl
theorem iw_3_9 : Cond.instanceMethod ⟨"GoldPlate", "mark", "(IIIII)I"⟩ ∈ gp_ws := gp_in3 (i := 9) rfl rfl
theorem iw_3_10 : Cond.selects "GoldPlate" ⟨"GoldPlate", "mark", "(IIIII)I"⟩ ⟨"GoldPlate", "mark", "(IIIII)I"⟩ ∈ gp_ws := gp_in3 (i := 10) rfl rfl
theorem iw_3_11 : Cond.code ⟨"GoldPlate", "mark", "(IIIII)I"⟩ prog_1_method_2_code 8 (some .int) ∈ gp_ws := gp_in3 (i := 11) rfl rfl
theorem iw_3_12 : Cond.methodLink "GoldPlate" 86 ⟨"GoldPlate", "within", "(III)Z"⟩ ∈ gp_ws := gp_in3 (i := 12) rfl rfl
theorem iw_3_13 : Cond.static ⟨"GoldPlate", "within", "(III)Z"⟩ ∈ gp_ws := gp_in3 (i := 13) rfl rfl
theorem iw_3_14 : Cond.code ⟨"GoldPlate", "within", "(III)Z"⟩ prog_1_method_42_code 3 (some .boolean) ∈ gp_ws := gp_in3 (i := 14) rfl rfl
theorem iw_3_15 : Cond.methodLink "GoldPlateLaw" 18 ⟨"GoldPlate", "tell", "(III)Z"⟩ ∈ gp_ws := gp_in3 (i := 15) rfl rfl
theorem iw_3_16 : Cond.instanceMethod ⟨"GoldPlate", "tell", "(III)Z"⟩ ∈ gp_ws := gp_in3 (i := 16) rfl rfl
theorem iw_3_17 : Cond.selects "GoldPlate" ⟨"GoldPlate", "tell", "(III)Z"⟩ ⟨"GoldPlate", "tell", "(III)Z"⟩ ∈ gp_ws := gp_in3 (i := 17) rfl rfl
theorem iw_3_18 : Cond.code ⟨"GoldPlate", "tell", "(III)Z"⟩ prog_1_method_3_code 5 (some .boolean) ∈ gp_ws := gp_in3 (i := 18) rfl rfl
theorem iw_3_19 : Cond.methodLink "GoldPlate" 115 ⟨"GoldPlate$Plate", "has", "(I)Z"⟩ ∈ gp_ws := gp_in3 (i := 19) rfl rfl
theorem iw_3_20 : Cond.instanceMethod ⟨"GoldPlate$Plate", "has", "(I)Z"⟩ ∈ gp_ws := gp_in3 (i := 20) rfl rfl
theorem iw_3_21 : Cond.selects "GoldPlate$Plate" ⟨"GoldPlate$Plate", "has", "(I)Z"⟩ ⟨"GoldPlate$Plate", "has", "(I)Z"⟩ ∈ gp_ws := gp_in3 (i := 21) rfl rfl
theorem iw_3_22 : Cond.code ⟨"GoldPlate$Plate", "has", "(I)Z"⟩ prog_7_method_2_code 2 (some .boolean) ∈ gp_ws := gp_in3 (i := 22) rfl rfl
theorem iw_3_23 : Cond.methodLink "GoldPlate" 119 ⟨"GoldPlate", "tellNeeds", "(LGoldPlate$Mark;II)Z"⟩ ∈ gp_ws := gp_in3 (i := 23) rfl rfl
theorem iw_3_24 : Cond.static ⟨"GoldPlate", "tellNeeds", "(LGoldPlate$Mark;II)Z"⟩ ∈ gp_ws := gp_in3 (i := 24) rfl rfl
theorem iw_3_25 : Cond.code ⟨"GoldPlate", "tellNeeds", "(LGoldPlate$Mark;II)Z"⟩ prog_1_method_4_code 3 (some .boolean) ∈ gp_ws := gp_in3 (i := 25) rfl rfl
theorem iw_3_26 : Cond.methodLink "GoldPlate" 123 ⟨"GoldPlate", "tellKnows", "(LGoldPlate$Mark;I)Z"⟩ ∈ gp_ws := gp_in3 (i := 26) rfl rfl
theorem iw_3_27 : Cond.static ⟨"GoldPlate", "tellKnows", "(LGoldPlate$Mark;I)Z"⟩ ∈ gp_ws := gp_in3 (i := 27) rfl rfl
theorem iw_3_28 : Cond.code ⟨"GoldPlate", "tellKnows", "(LGoldPlate$Mark;I)Z"⟩ prog_1_method_5_code 2 (some .boolean) ∈ gp_ws := gp_in3 (i := 28) rfl rfl
theorem iw_3_29 : Cond.methodLink "GoldPlate" 127 ⟨"GoldPlate", "tellFirst", "(LGoldPlate$Mark;I)Z"⟩ ∈ gp_ws := gp_in3 (i := 29) rfl rfl
theorem iw_3_30 : Cond.static ⟨"GoldPlate", "tellFirst", "(LGoldPlate$Mark;I)Z"⟩ ∈ gp_ws := gp_in3 (i := 30) rfl rfl
theorem iw_3_31 : Cond.code ⟨"GoldPlate", "tellFirst", "(LGoldPlate$Mark;I)Z"⟩ prog_1_method_6_code 3 (some .boolean) ∈ gp_ws := gp_in3 (i := 31) rfl rfl
theorem iw_3_32 : Cond.methodLink "GoldPlate" 142 ⟨"GoldPlate", "canBeOther", "(LGoldPlate$Mark;I)Z"⟩ ∈ gp_ws := gp_in3 (i := 32) rfl rfl
theorem iw_3_33 : Cond.static ⟨"GoldPlate", "canBeOther", "(LGoldPlate$Mark;I)Z"⟩ ∈ gp_ws := gp_in3 (i := 33) rfl rfl
theorem iw_3_34 : Cond.code ⟨"GoldPlate", "canBeOther", "(LGoldPlate$Mark;I)Z"⟩ prog_1_method_8_code 2 (some .boolean) ∈ gp_ws := gp_in3 (i := 34) rfl rfl
theorem iw_3_35 : Cond.methodLink "GoldPlate" 130 ⟨"GoldPlate", "tellSecond", "(LGoldPlate$Mark;I)Z"⟩ ∈ gp_ws := gp_in3 (i := 35) rfl rfl
theorem iw_3_36 : Cond.static ⟨"GoldPlate", "tellSecond", "(LGoldPlate$Mark;I)Z"⟩ ∈ gp_ws := gp_in3 (i := 36) rfl rfl
theorem iw_3_37 : Cond.code ⟨"GoldPlate", "tellSecond", "(LGoldPlate$Mark;I)Z"⟩ prog_1_method_7_code 3 (some .boolean) ∈ gp_ws := gp_in3 (i := 37) rfl rfl
theorem iw_3_38 : Cond.methodLink "GoldPlateLaw" 23 ⟨"GoldPlate", "hard", "(II)Z"⟩ ∈ gp_ws := gp_in3 (i := 38) rfl rfl
theorem iw_3_39 : Cond.instanceMethod ⟨"GoldPlate", "hard", "(II)Z"⟩ ∈ gp_ws := gp_in3 (i := 39) rfl rfl
theorem iw_3_40 : Cond.selects "GoldPlate" ⟨"GoldPlate", "hard", "(II)Z"⟩ ⟨"GoldPlate", "hard", "(II)Z"⟩ ∈ gp_ws := gp_in3 (i := 40) rfl rfl
theorem iw_3_41 : Cond.code ⟨"GoldPlate", "hard", "(II)Z"⟩ prog_1_method_9_code 3 (some .boolean) ∈ gp_ws := gp_in3 (i := 41) rfl rfl
theorem iw_3_42 : Cond.methodLink "GoldPlateLaw" 28 ⟨"GoldPlate", "year", "(I)Z"⟩ ∈ gp_ws := gp_in3 (i := 42) rfl rfl
theorem iw_3_43 : Cond.instanceMethod ⟨"GoldPlate", "year", "(I)Z"⟩ ∈ gp_ws := gp_in3 (i := 43) rfl rfl
theorem iw_3_44 : Cond.selects "GoldPlate" ⟨"GoldPlate", "year", "(I)Z"⟩ ⟨"GoldPlate", "year", "(I)Z"⟩ ∈ gp_ws := gp_in3 (i := 44) rfl rfl
theorem iw_3_45 : Cond.code ⟨"GoldPlate", "year", "(I)Z"⟩ prog_1_method_10_code 2 (some .boolean) ∈ gp_ws := gp_in3 (i := 45) rfl rfl
theorem iw_3_46 : Cond.methodLink "GoldPlateLaw" 33 ⟨"GoldPlate", "of", "(II)I"⟩ ∈ gp_ws := gp_in3 (i := 46) rfl rfl
theorem iw_3_47 : Cond.instanceMethod ⟨"GoldPlate", "of", "(II)I"⟩ ∈ gp_ws := gp_in3 (i := 47) rfl rfl
theorem iw_3_48 : Cond.selects "GoldPlate" ⟨"GoldPlate", "of", "(II)I"⟩ ⟨"GoldPlate", "of", "(II)I"⟩ ∈ gp_ws := gp_in3 (i := 48) rfl rfl
theorem iw_3_49 : Cond.code ⟨"GoldPlate", "of", "(II)I"⟩ prog_1_method_11_code 3 (some .int) ∈ gp_ws := gp_in3 (i := 49) rfl rfl
theorem iw_3_50 : Cond.constant "GoldPlate" 155 (-1000000) ∈ gp_ws := gp_in3 (i := 50) rfl rfl
theorem iw_3_51 : Cond.methodLink "GoldPlate" 156 ⟨"GoldPlate$Plate", "leftOf", "(LGoldPlate$Mark;)I"⟩ ∈ gp_ws := gp_in3 (i := 51) rfl rfl
theorem iw_3_52 : Cond.instanceMethod ⟨"GoldPlate$Plate", "leftOf", "(LGoldPlate$Mark;)I"⟩ ∈ gp_ws := gp_in3 (i := 52) rfl rfl
theorem iw_3_53 : Cond.selects "GoldPlate$Plate" ⟨"GoldPlate$Plate", "leftOf", "(LGoldPlate$Mark;)I"⟩ ⟨"GoldPlate$Plate", "leftOf", "(LGoldPlate$Mark;)I"⟩ ∈ gp_ws := gp_in3 (i := 53) rfl rfl
theorem iw_3_54 : Cond.code ⟨"GoldPlate$Plate", "leftOf", "(LGoldPlate$Mark;)I"⟩ prog_7_method_4_code 2 (some .int) ∈ gp_ws := gp_in3 (i := 54) rfl rfl
theorem iw_3_55 : Cond.methodLink "GoldPlate" 160 ⟨"GoldPlate$Plate", "wearOf", "(LGoldPlate$Mark;)I"⟩ ∈ gp_ws := gp_in3 (i := 55) rfl rfl
theorem iw_3_56 : Cond.instanceMethod ⟨"GoldPlate$Plate", "wearOf", "(LGoldPlate$Mark;)I"⟩ ∈ gp_ws := gp_in3 (i := 56) rfl rfl
theorem iw_3_57 : Cond.selects "GoldPlate$Plate" ⟨"GoldPlate$Plate", "wearOf", "(LGoldPlate$Mark;)I"⟩ ⟨"GoldPlate$Plate", "wearOf", "(LGoldPlate$Mark;)I"⟩ ∈ gp_ws := gp_in3 (i := 57) rfl rfl
theorem iw_3_58 : Cond.code ⟨"GoldPlate$Plate", "wearOf", "(LGoldPlate$Mark;)I"⟩ prog_7_method_5_code 3 (some .int) ∈ gp_ws := gp_in3 (i := 58) rfl rfl
theorem iw_3_59 : Cond.methodLink "GoldPlate$Plate" 38 ⟨"GoldPlate$Plate", "leftOf", "(LGoldPlate$Mark;)I"⟩ ∈ gp_ws := gp_in3 (i := 59) rfl rfl
theorem iw_3_60 : Cond.methodLink "GoldPlate" 163 ⟨"GoldPlate$Plate", "chainOf", "(I)I"⟩ ∈ gp_ws := gp_in3 (i := 60) rfl rfl
theorem iw_3_61 : Cond.instanceMethod ⟨"GoldPlate$Plate", "chainOf", "(I)I"⟩ ∈ gp_ws := gp_in3 (i := 61) rfl rfl
theorem iw_3_62 : Cond.selects "GoldPlate$Plate" ⟨"GoldPlate$Plate", "chainOf", "(I)I"⟩ ⟨"GoldPlate$Plate", "chainOf", "(I)I"⟩ ∈ gp_ws := gp_in3 (i := 62) rfl rfl
theorem iw_3_63 : Cond.code ⟨"GoldPlate$Plate", "chainOf", "(I)I"⟩ prog_7_method_6_code 5 (some .int) ∈ gp_ws := gp_in3 (i := 63) rfl rfl
theorem iw_3_64 : Cond.methodLink "GoldPlate$Plate" 45 ⟨"java/lang/Math", "max", "(II)I"⟩ ∈ gp_ws := gp_in3 (i := 64) rfl rfl
theorem iw_3_65 : Cond.static ⟨"java/lang/Math", "max", "(II)I"⟩ ∈ gp_ws := gp_in3 (i := 65) rfl rfl
theorem iw_3_66 : Cond.code ⟨"java/lang/Math", "max", "(II)I"⟩ prog_17_method_65_code 2 (some .int) ∈ gp_ws := gp_in3 (i := 66) rfl rfl
theorem iw_3_67 : Cond.methodLink "GoldPlateLaw" 38 ⟨"GoldPlate", "put", "(I)I"⟩ ∈ gp_ws := gp_in3 (i := 67) rfl rfl
theorem iw_3_68 : Cond.instanceMethod ⟨"GoldPlate", "put", "(I)I"⟩ ∈ gp_ws := gp_in3 (i := 68) rfl rfl
theorem iw_3_69 : Cond.selects "GoldPlate" ⟨"GoldPlate", "put", "(I)I"⟩ ⟨"GoldPlate", "put", "(I)I"⟩ ∈ gp_ws := gp_in3 (i := 69) rfl rfl
theorem iw_3_70 : Cond.code ⟨"GoldPlate", "put", "(I)I"⟩ prog_1_method_12_code 2 (some .int) ∈ gp_ws := gp_in3 (i := 70) rfl rfl
theorem iw_3_71 : Cond.methodLink "GoldPlate" 174 ⟨"GoldPlate", "inMessage", "(I)Z"⟩ ∈ gp_ws := gp_in3 (i := 71) rfl rfl
theorem iw_3_73 : Cond.instanceMethod ⟨"GoldPlate", "inMessage", "(I)Z"⟩ ∈ gp_ws := gp_in3 (i := 73) rfl rfl
theorem iw_3_74 : Cond.code ⟨"GoldPlate", "inMessage", "(I)Z"⟩ prog_1_method_13_code 3 (some .boolean) ∈ gp_ws := gp_in3 (i := 74) rfl rfl
theorem iw_3_75 : Cond.methodLink "GoldPlate" 177 ⟨"GoldPlate", "markAt", "(JI)I"⟩ ∈ gp_ws := gp_in3 (i := 75) rfl rfl
theorem iw_3_76 : Cond.static ⟨"GoldPlate", "markAt", "(JI)I"⟩ ∈ gp_ws := gp_in3 (i := 76) rfl rfl
theorem iw_3_77 : Cond.code ⟨"GoldPlate", "markAt", "(JI)I"⟩ prog_1_method_44_code 3 (some .int) ∈ gp_ws := gp_in3 (i := 77) rfl rfl
theorem iw_3_78 : Cond.methodLink "GoldPlateLaw" 43 ⟨"GoldPlate", "feed", "(IIIII)I"⟩ ∈ gp_ws := gp_in3 (i := 78) rfl rfl
theorem iw_3_79 : Cond.instanceMethod ⟨"GoldPlate", "feed", "(IIIII)I"⟩ ∈ gp_ws := gp_in3 (i := 79) rfl rfl
theorem iw_3_80 : Cond.selects "GoldPlate" ⟨"GoldPlate", "feed", "(IIIII)I"⟩ ⟨"GoldPlate", "feed", "(IIIII)I"⟩ ∈ gp_ws := gp_in3 (i := 80) rfl rfl
theorem iw_3_81 : Cond.code ⟨"GoldPlate", "feed", "(IIIII)I"⟩ prog_1_method_14_code 6 (some .int) ∈ gp_ws := gp_in3 (i := 81) rfl rfl
theorem iw_3_82 : Cond.methodLink "GoldPlate" 182 ⟨"GoldPlate$Parser", "addBytes", "(I)V"⟩ ∈ gp_ws := gp_in3 (i := 82) rfl rfl
theorem iw_3_83 : Cond.instanceMethod ⟨"GoldPlate$Parser", "addBytes", "(I)V"⟩ ∈ gp_ws := gp_in3 (i := 83) rfl rfl
theorem iw_3_84 : Cond.selects "GoldPlate$Parser" ⟨"GoldPlate$Parser", "addBytes", "(I)V"⟩ ⟨"GoldPlate$Parser", "addBytes", "(I)V"⟩ ∈ gp_ws := gp_in3 (i := 84) rfl rfl
theorem iw_3_85 : Cond.code ⟨"GoldPlate$Parser", "addBytes", "(I)V"⟩ prog_6_method_2_code 3 none ∈ gp_ws := gp_in3 (i := 85) rfl rfl
theorem iw_3_86 : Cond.methodLink "GoldPlateLaw" 47 ⟨"GoldPlate", "end", "(I)Z"⟩ ∈ gp_ws := gp_in3 (i := 86) rfl rfl
theorem iw_3_87 : Cond.instanceMethod ⟨"GoldPlate", "end", "(I)Z"⟩ ∈ gp_ws := gp_in3 (i := 87) rfl rfl
theorem iw_3_88 : Cond.selects "GoldPlate" ⟨"GoldPlate", "end", "(I)Z"⟩ ⟨"GoldPlate", "end", "(I)Z"⟩ ∈ gp_ws := gp_in3 (i := 88) rfl rfl
theorem iw_3_89 : Cond.code ⟨"GoldPlate", "end", "(I)Z"⟩ prog_1_method_15_code 2 (some .boolean) ∈ gp_ws := gp_in3 (i := 89) rfl rfl
theorem iw_3_90 : Cond.methodLink "GoldPlateLaw" 51 ⟨"GoldPlate", "mind", "(I)I"⟩ ∈ gp_ws := gp_in3 (i := 90) rfl rfl
theorem iw_3_91 : Cond.instanceMethod ⟨"GoldPlate", "mind", "(I)I"⟩ ∈ gp_ws := gp_in3 (i := 91) rfl rfl
theorem iw_3_92 : Cond.selects "GoldPlate" ⟨"GoldPlate", "mind", "(I)I"⟩ ⟨"GoldPlate", "mind", "(I)I"⟩ ∈ gp_ws := gp_in3 (i := 92) rfl rfl
theorem iw_3_93 : Cond.code ⟨"GoldPlate", "mind", "(I)I"⟩ prog_1_method_16_code 3 (some .int) ∈ gp_ws := gp_in3 (i := 93) rfl rfl
theorem iw_3_94 : Cond.methodLink "GoldPlate" 186 ⟨"GoldPlate", "isMind", "(I)Z"⟩ ∈ gp_ws := gp_in3 (i := 94) rfl rfl
theorem iw_3_95 : Cond.static ⟨"GoldPlate", "isMind", "(I)Z"⟩ ∈ gp_ws := gp_in3 (i := 95) rfl rfl
theorem iw_3_96 : Cond.code ⟨"GoldPlate", "isMind", "(I)Z"⟩ prog_1_method_43_code 1 (some .boolean) ∈ gp_ws := gp_in3 (i := 96) rfl rfl
theorem iw_3_97 : Cond.methodLink "GoldPlate" 189 ⟨"GoldPlate$Parser", "forget", "()V"⟩ ∈ gp_ws := gp_in3 (i := 97) rfl rfl
theorem iw_3_98 : Cond.instanceMethod ⟨"GoldPlate$Parser", "forget", "()V"⟩ ∈ gp_ws := gp_in3 (i := 98) rfl rfl
theorem iw_3_99 : Cond.selects "GoldPlate$Parser" ⟨"GoldPlate$Parser", "forget", "()V"⟩ ⟨"GoldPlate$Parser", "forget", "()V"⟩ ∈ gp_ws := gp_in3 (i := 99) rfl rfl
theorem iw_3_100 : Cond.code ⟨"GoldPlate$Parser", "forget", "()V"⟩ prog_6_method_3_code 1 none ∈ gp_ws := gp_in3 (i := 100) rfl rfl
theorem iw_3_101 : Cond.methodLink "GoldPlate" 192 ⟨"GoldPlate$Parser", "scan", "()V"⟩ ∈ gp_ws := gp_in3 (i := 101) rfl rfl
theorem iw_3_102 : Cond.instanceMethod ⟨"GoldPlate$Parser", "scan", "()V"⟩ ∈ gp_ws := gp_in3 (i := 102) rfl rfl
theorem iw_3_103 : Cond.selects "GoldPlate$Parser" ⟨"GoldPlate$Parser", "scan", "()V"⟩ ⟨"GoldPlate$Parser", "scan", "()V"⟩ ∈ gp_ws := gp_in3 (i := 103) rfl rfl
theorem iw_3_104 : Cond.code ⟨"GoldPlate$Parser", "scan", "()V"⟩ prog_6_method_4_code 3 none ∈ gp_ws := gp_in3 (i := 104) rfl rfl
theorem iw_3_105 : Cond.methodLink "GoldPlate$Parser" 44 ⟨"GoldPlate$Parser", "runEnd", "(I)I"⟩ ∈ gp_ws := gp_in3 (i := 105) rfl rfl
theorem iw_3_107 : Cond.instanceMethod ⟨"GoldPlate$Parser", "runEnd", "(I)I"⟩ ∈ gp_ws := gp_in3 (i := 107) rfl rfl
theorem iw_3_108 : Cond.code ⟨"GoldPlate$Parser", "runEnd", "(I)I"⟩ prog_6_method_7_code 5 (some .int) ∈ gp_ws := gp_in3 (i := 108) rfl rfl
theorem iw_3_109 : Cond.methodLink "GoldPlate$Parser" 56 ⟨"GoldPlate$Parser", "isLetter", "(I)Z"⟩ ∈ gp_ws := gp_in3 (i := 109) rfl rfl
theorem iw_3_110 : Cond.static ⟨"GoldPlate$Parser", "isLetter", "(I)Z"⟩ ∈ gp_ws := gp_in3 (i := 110) rfl rfl
theorem iw_3_111 : Cond.code ⟨"GoldPlate$Parser", "isLetter", "(I)Z"⟩ prog_6_method_8_code 1 (some .boolean) ∈ gp_ws := gp_in3 (i := 111) rfl rfl
theorem iw_3_112 : Cond.methodLink "GoldPlate$Parser" 64 ⟨"GoldPlate$Parser", "isDigit", "(I)Z"⟩ ∈ gp_ws := gp_in3 (i := 112) rfl rfl
theorem iw_3_113 : Cond.static ⟨"GoldPlate$Parser", "isDigit", "(I)Z"⟩ ∈ gp_ws := gp_in3 (i := 113) rfl rfl
theorem iw_3_114 : Cond.code ⟨"GoldPlate$Parser", "isDigit", "(I)Z"⟩ prog_6_method_9_code 1 (some .boolean) ∈ gp_ws := gp_in3 (i := 114) rfl rfl
theorem iw_3_115 : Cond.methodLink "GoldPlate$Parser" 48 ⟨"GoldPlate$Parser", "scanRun", "(II)V"⟩ ∈ gp_ws := gp_in3 (i := 115) rfl rfl
theorem iw_3_117 : Cond.instanceMethod ⟨"GoldPlate$Parser", "scanRun", "(II)V"⟩ ∈ gp_ws := gp_in3 (i := 117) rfl rfl
theorem iw_3_118 : Cond.code ⟨"GoldPlate$Parser", "scanRun", "(II)V"⟩ prog_6_method_5_code 4 none ∈ gp_ws := gp_in3 (i := 118) rfl rfl
theorem iw_3_119 : Cond.methodLink "GoldPlate$Parser" 60 ⟨"GoldPlate$Parser", "keyword", "(II)I"⟩ ∈ gp_ws := gp_in3 (i := 119) rfl rfl
theorem iw_3_121 : Cond.instanceMethod ⟨"GoldPlate$Parser", "keyword", "(II)I"⟩ ∈ gp_ws := gp_in3 (i := 121) rfl rfl
theorem iw_3_122 : Cond.code ⟨"GoldPlate$Parser", "keyword", "(II)I"⟩ prog_6_method_11_code 5 (some .int) ∈ gp_ws := gp_in3 (i := 122) rfl rfl
theorem iw_3_124 : Cond.methodLink "GoldPlate$Parser" 79 ⟨"GoldPlate$Parser", "indexIn", "(Ljava/lang/String;II)I"⟩ ∈ gp_ws := gp_in3 (i := 124) rfl rfl
theorem iw_3_126 : Cond.instanceMethod ⟨"GoldPlate$Parser", "indexIn", "(Ljava/lang/String;II)I"⟩ ∈ gp_ws := gp_in3 (i := 126) rfl rfl
theorem iw_3_127 : Cond.code ⟨"GoldPlate$Parser", "indexIn", "(Ljava/lang/String;II)I"⟩ prog_6_method_12_code 7 (some .int) ∈ gp_ws := gp_in3 (i := 127) rfl rfl
theorem iw_3_128 : Cond.methodLink "GoldPlate$Parser" 85 ⟨"java/lang/String", "length", "()I"⟩ ∈ gp_ws := gp_in3 (i := 128) rfl rfl
theorem iw_3_129 : Cond.instanceMethod ⟨"java/lang/String", "length", "()I"⟩ ∈ gp_ws := gp_in3 (i := 129) rfl rfl
theorem iw_3_130 : Cond.selects "java/lang/String" ⟨"java/lang/String", "length", "()I"⟩ ⟨"java/lang/String", "length", "()I"⟩ ∈ gp_ws := gp_in3 (i := 130) rfl rfl
theorem iw_3_131 : Cond.code ⟨"java/lang/String", "length", "()I"⟩ prog_18_method_54_code 1 (some .int) ∈ gp_ws := gp_in3 (i := 131) rfl rfl
theorem iw_3_132 : Cond.methodLink "java/lang/String" 335 ⟨"java/lang/String", "coder", "()B"⟩ ∈ gp_ws := gp_in3 (i := 132) rfl rfl
theorem iw_3_133 : Cond.instanceMethod ⟨"java/lang/String", "coder", "()B"⟩ ∈ gp_ws := gp_in3 (i := 133) rfl rfl
theorem iw_3_134 : Cond.selects "java/lang/String" ⟨"java/lang/String", "coder", "()B"⟩ ⟨"java/lang/String", "coder", "()B"⟩ ∈ gp_ws := gp_in3 (i := 134) rfl rfl
theorem iw_3_135 : Cond.code ⟨"java/lang/String", "coder", "()B"⟩ prog_18_method_152_code 1 (some .byte) ∈ gp_ws := gp_in3 (i := 135) rfl rfl
theorem iw_3_136 : Cond.fieldLink "java/lang/String" 38 "java/lang/String" "COMPACT_STRINGS" "Z" ∈ gp_ws := gp_in3 (i := 136) rfl rfl
theorem iw_3_138 : Cond.methodLink "GoldPlate$Parser" 89 ⟨"java/lang/String", "charAt", "(I)C"⟩ ∈ gp_ws := gp_in3 (i := 138) rfl rfl
theorem iw_3_139 : Cond.instanceMethod ⟨"java/lang/String", "charAt", "(I)C"⟩ ∈ gp_ws := gp_in3 (i := 139) rfl rfl
theorem iw_3_140 : Cond.selects "java/lang/String" ⟨"java/lang/String", "charAt", "(I)C"⟩ ⟨"java/lang/String", "charAt", "(I)C"⟩ ∈ gp_ws := gp_in3 (i := 140) rfl rfl
theorem iw_3_141 : Cond.code ⟨"java/lang/String", "charAt", "(I)C"⟩ prog_18_method_56_code 2 (some .char) ∈ gp_ws := gp_in3 (i := 141) rfl rfl
theorem iw_3_142 : Cond.methodLink "java/lang/String" 492 ⟨"java/lang/String", "isLatin1", "()Z"⟩ ∈ gp_ws := gp_in3 (i := 142) rfl rfl
theorem iw_3_143 : Cond.instanceMethod ⟨"java/lang/String", "isLatin1", "()Z"⟩ ∈ gp_ws := gp_in3 (i := 143) rfl rfl
theorem iw_3_144 : Cond.selects "java/lang/String" ⟨"java/lang/String", "isLatin1", "()Z"⟩ ⟨"java/lang/String", "isLatin1", "()Z"⟩ ∈ gp_ws := gp_in3 (i := 144) rfl rfl
theorem iw_3_145 : Cond.code ⟨"java/lang/String", "isLatin1", "()Z"⟩ prog_18_method_154_code 1 (some .boolean) ∈ gp_ws := gp_in3 (i := 145) rfl rfl
theorem iw_3_146 : Cond.methodLink "java/lang/String" 495 ⟨"java/lang/StringLatin1", "charAt", "([BI)C"⟩ ∈ gp_ws := gp_in3 (i := 146) rfl rfl
theorem iw_3_147 : Cond.static ⟨"java/lang/StringLatin1", "charAt", "([BI)C"⟩ ∈ gp_ws := gp_in3 (i := 147) rfl rfl
theorem iw_3_148 : Cond.code ⟨"java/lang/StringLatin1", "charAt", "([BI)C"⟩ prog_19_method_2_code 2 (some .char) ∈ gp_ws := gp_in3 (i := 148) rfl rfl
theorem iw_3_149 : Cond.methodLink "java/lang/StringLatin1" 9 ⟨"java/lang/String", "checkIndex", "(II)V"⟩ ∈ gp_ws := gp_in3 (i := 149) rfl rfl
theorem iw_3_150 : Cond.static ⟨"java/lang/String", "checkIndex", "(II)V"⟩ ∈ gp_ws := gp_in3 (i := 150) rfl rfl
theorem iw_3_151 : Cond.code ⟨"java/lang/String", "checkIndex", "(II)V"⟩ prog_18_method_155_code 2 none ∈ gp_ws := gp_in3 (i := 151) rfl rfl
theorem iw_3_152 : Cond.fieldLink "java/lang/String" 1053 "jdk/internal/util/Preconditions" "SIOOBE_FORMATTER" "Ljava/util/function/BiFunction;" ∈ gp_ws := gp_in3 (i := 152) rfl rfl
theorem iw_3_154 : Cond.methodLink "java/lang/String" 1059 ⟨"jdk/internal/util/Preconditions", "checkIndex", "(IILjava/util/function/BiFunction;)I"⟩ ∈ gp_ws := gp_in3 (i := 154) rfl rfl
theorem iw_3_155 : Cond.static ⟨"jdk/internal/util/Preconditions", "checkIndex", "(IILjava/util/function/BiFunction;)I"⟩ ∈ gp_ws := gp_in3 (i := 155) rfl rfl
theorem iw_3_156 : Cond.code ⟨"jdk/internal/util/Preconditions", "checkIndex", "(IILjava/util/function/BiFunction;)I"⟩ prog_21_method_11_code 3 (some .int) ∈ gp_ws := gp_in3 (i := 156) rfl rfl
theorem iw_3_176 : Cond.methodLink "GoldPlate$Parser" 93 ⟨"GoldPlate$Parser", "standsAt", "(Ljava/lang/String;III)Z"⟩ ∈ gp_ws := gp_in3 (i := 176) rfl rfl
theorem iw_3_178 : Cond.instanceMethod ⟨"GoldPlate$Parser", "standsAt", "(Ljava/lang/String;III)Z"⟩ ∈ gp_ws := gp_in3 (i := 178) rfl rfl
theorem iw_3_179 : Cond.code ⟨"GoldPlate$Parser", "standsAt", "(Ljava/lang/String;III)Z"⟩ prog_6_method_13_code 6 (some .boolean) ∈ gp_ws := gp_in3 (i := 179) rfl rfl
theorem iw_3_181 : Cond.methodLink "GoldPlate$Parser" 52 ⟨"GoldPlate$Parser", "addToken", "(III)V"⟩ ∈ gp_ws := gp_in3 (i := 181) rfl rfl
theorem iw_3_183 : Cond.instanceMethod ⟨"GoldPlate$Parser", "addToken", "(III)V"⟩ ∈ gp_ws := gp_in3 (i := 183) rfl rfl
theorem iw_3_184 : Cond.code ⟨"GoldPlate$Parser", "addToken", "(III)V"⟩ prog_6_method_6_code 4 none ∈ gp_ws := gp_in3 (i := 184) rfl rfl
theorem iw_3_185 : Cond.methodLink "GoldPlate$Parser" 67 ⟨"GoldPlate$Parser", "numberOf", "(II)I"⟩ ∈ gp_ws := gp_in3 (i := 185) rfl rfl
theorem iw_3_187 : Cond.instanceMethod ⟨"GoldPlate$Parser", "numberOf", "(II)I"⟩ ∈ gp_ws := gp_in3 (i := 187) rfl rfl
theorem iw_3_188 : Cond.code ⟨"GoldPlate$Parser", "numberOf", "(II)I"⟩ prog_6_method_10_code 5 (some .int) ∈ gp_ws := gp_in3 (i := 188) rfl rfl
theorem iw_3_190 : Cond.methodLink "GoldPlate$Parser" 72 ⟨"java/lang/String", "indexOf", "(I)I"⟩ ∈ gp_ws := gp_in3 (i := 190) rfl rfl
theorem iw_3_191 : Cond.instanceMethod ⟨"java/lang/String", "indexOf", "(I)I"⟩ ∈ gp_ws := gp_in3 (i := 191) rfl rfl
theorem iw_3_192 : Cond.selects "java/lang/String" ⟨"java/lang/String", "indexOf", "(I)I"⟩ ⟨"java/lang/String", "indexOf", "(I)I"⟩ ∈ gp_ws := gp_in3 (i := 192) rfl rfl
theorem iw_3_193 : Cond.code ⟨"java/lang/String", "indexOf", "(I)I"⟩ prog_18_method_79_code 2 (some .int) ∈ gp_ws := gp_in3 (i := 193) rfl rfl
theorem iw_3_194 : Cond.methodLink "java/lang/String" 633 ⟨"java/lang/String", "indexOf", "(II)I"⟩ ∈ gp_ws := gp_in3 (i := 194) rfl rfl
theorem iw_3_195 : Cond.instanceMethod ⟨"java/lang/String", "indexOf", "(II)I"⟩ ∈ gp_ws := gp_in3 (i := 195) rfl rfl
theorem iw_3_196 : Cond.selects "java/lang/String" ⟨"java/lang/String", "indexOf", "(II)I"⟩ ⟨"java/lang/String", "indexOf", "(II)I"⟩ ∈ gp_ws := gp_in3 (i := 196) rfl rfl
theorem iw_3_197 : Cond.code ⟨"java/lang/String", "indexOf", "(II)I"⟩ prog_18_method_80_code 3 (some .int) ∈ gp_ws := gp_in3 (i := 197) rfl rfl
theorem iw_3_198 : Cond.methodLink "java/lang/String" 505 ⟨"java/lang/String", "length", "()I"⟩ ∈ gp_ws := gp_in3 (i := 198) rfl rfl
theorem iw_3_199 : Cond.methodLink "java/lang/String" 637 ⟨"java/lang/StringLatin1", "indexOf", "([BIII)I"⟩ ∈ gp_ws := gp_in3 (i := 199) rfl rfl
theorem iw_3_200 : Cond.static ⟨"java/lang/StringLatin1", "indexOf", "([BIII)I"⟩ ∈ gp_ws := gp_in3 (i := 200) rfl rfl
theorem iw_3_201 : Cond.code ⟨"java/lang/StringLatin1", "indexOf", "([BIII)I"⟩ prog_19_method_22_code 4 (some .int) ∈ gp_ws := gp_in3 (i := 201) rfl rfl
theorem iw_3_202 : Cond.methodLink "java/lang/StringLatin1" 88 ⟨"java/lang/StringLatin1", "canEncode", "(I)Z"⟩ ∈ gp_ws := gp_in3 (i := 202) rfl rfl
theorem iw_3_203 : Cond.static ⟨"java/lang/StringLatin1", "canEncode", "(I)Z"⟩ ∈ gp_ws := gp_in3 (i := 203) rfl rfl
theorem iw_3_204 : Cond.code ⟨"java/lang/StringLatin1", "canEncode", "(I)Z"⟩ prog_19_method_4_code 1 (some .boolean) ∈ gp_ws := gp_in3 (i := 204) rfl rfl
theorem iw_3_205 : Cond.methodLink "java/lang/StringLatin1" 92 ⟨"java/lang/Math", "max", "(II)I"⟩ ∈ gp_ws := gp_in3 (i := 205) rfl rfl
theorem iw_3_206 : Cond.methodLink "java/lang/StringLatin1" 38 ⟨"java/lang/Math", "min", "(II)I"⟩ ∈ gp_ws := gp_in3 (i := 206) rfl rfl
theorem iw_3_207 : Cond.static ⟨"java/lang/Math", "min", "(II)I"⟩ ∈ gp_ws := gp_in3 (i := 207) rfl rfl
theorem iw_3_208 : Cond.code ⟨"java/lang/Math", "min", "(II)I"⟩ prog_17_method_69_code 2 (some .int) ∈ gp_ws := gp_in3 (i := 208) rfl rfl
theorem iw_3_209 : Cond.methodLink "java/lang/StringLatin1" 95 ⟨"java/lang/StringLatin1", "indexOfChar", "([BIII)I"⟩ ∈ gp_ws := gp_in3 (i := 209) rfl rfl
theorem iw_3_210 : Cond.static ⟨"java/lang/StringLatin1", "indexOfChar", "([BIII)I"⟩ ∈ gp_ws := gp_in3 (i := 210) rfl rfl
theorem iw_3_211 : Cond.code ⟨"java/lang/StringLatin1", "indexOfChar", "([BIII)I"⟩ prog_19_method_23_code 6 (some .int) ∈ gp_ws := gp_in3 (i := 211) rfl rfl
theorem iw_3_226 : Cond.code ⟨"java/lang/String", "checkBoundsBeginEnd", "(III)V"⟩ prog_18_method_158_code 3 none ∈ gp_ws := gp_in3 (i := 226) rfl rfl
theorem iw_3_227 : Cond.methodLink "java/lang/String" 1062 ⟨"jdk/internal/util/Preconditions", "checkFromToIndex", "(IIILjava/util/function/BiFunction;)I"⟩ ∈ gp_ws := gp_in3 (i := 227) rfl rfl
theorem iw_3_228 : Cond.static ⟨"jdk/internal/util/Preconditions", "checkFromToIndex", "(IIILjava/util/function/BiFunction;)I"⟩ ∈ gp_ws := gp_in3 (i := 228) rfl rfl
theorem iw_3_229 : Cond.code ⟨"jdk/internal/util/Preconditions", "checkFromToIndex", "(IIILjava/util/function/BiFunction;)I"⟩ prog_21_method_12_code 4 (some .int) ∈ gp_ws := gp_in3 (i := 229) rfl rfl
theorem iw_4_7 : Cond.methodLink "GoldPlate" 195 ⟨"GoldPlate$Parser", "readsText", "()Z"⟩ ∈ gp_ws := gp_in4 (i := 7) rfl rfl
theorem iw_4_8 : Cond.instanceMethod ⟨"GoldPlate$Parser", "readsText", "()Z"⟩ ∈ gp_ws := gp_in4 (i := 8) rfl rfl
theorem iw_4_9 : Cond.selects "GoldPlate$Parser" ⟨"GoldPlate$Parser", "readsText", "()Z"⟩ ⟨"GoldPlate$Parser", "readsText", "()Z"⟩ ∈ gp_ws := gp_in4 (i := 9) rfl rfl
theorem iw_4_10 : Cond.code ⟨"GoldPlate$Parser", "readsText", "()Z"⟩ prog_6_method_14_code 2 (some .boolean) ∈ gp_ws := gp_in4 (i := 10) rfl rfl
theorem iw_4_11 : Cond.methodLink "GoldPlate$Parser" 97 ⟨"GoldPlate$Parser", "forget", "()V"⟩ ∈ gp_ws := gp_in4 (i := 11) rfl rfl
theorem iw_4_12 : Cond.methodLink "GoldPlate$Parser" 103 ⟨"GoldPlate$Mind", "clear", "()V"⟩ ∈ gp_ws := gp_in4 (i := 12) rfl rfl
theorem iw_4_13 : Cond.instanceMethod ⟨"GoldPlate$Mind", "clear", "()V"⟩ ∈ gp_ws := gp_in4 (i := 13) rfl rfl
theorem iw_4_14 : Cond.selects "GoldPlate$Mind" ⟨"GoldPlate$Mind", "clear", "()V"⟩ ⟨"GoldPlate$Mind", "clear", "()V"⟩ ∈ gp_ws := gp_in4 (i := 14) rfl rfl
theorem iw_4_15 : Cond.code ⟨"GoldPlate$Mind", "clear", "()V"⟩ prog_5_method_2_code 1 none ∈ gp_ws := gp_in4 (i := 15) rfl rfl
theorem iw_4_16 : Cond.methodLink "GoldPlate$Parser" 106 ⟨"GoldPlate$Parser", "kind", "()I"⟩ ∈ gp_ws := gp_in4 (i := 16) rfl rfl
theorem iw_4_18 : Cond.instanceMethod ⟨"GoldPlate$Parser", "kind", "()I"⟩ ∈ gp_ws := gp_in4 (i := 18) rfl rfl
theorem iw_4_19 : Cond.code ⟨"GoldPlate$Parser", "kind", "()I"⟩ prog_6_method_24_code 1 (some .int) ∈ gp_ws := gp_in4 (i := 19) rfl rfl
theorem iw_4_20 : Cond.methodLink "GoldPlate$Parser" 109 ⟨"GoldPlate$Parser", "readLine", "()V"⟩ ∈ gp_ws := gp_in4 (i := 20) rfl rfl
theorem iw_4_22 : Cond.instanceMethod ⟨"GoldPlate$Parser", "readLine", "()V"⟩ ∈ gp_ws := gp_in4 (i := 22) rfl rfl
theorem iw_4_23 : Cond.code ⟨"GoldPlate$Parser", "readLine", "()V"⟩ prog_6_method_15_code 4 none ∈ gp_ws := gp_in4 (i := 23) rfl rfl
theorem iw_4_24 : Cond.methodLink "GoldPlate$Parser" 112 ⟨"GoldPlate$Parser", "fail", "(I)V"⟩ ∈ gp_ws := gp_in4 (i := 24) rfl rfl
theorem iw_4_26 : Cond.instanceMethod ⟨"GoldPlate$Parser", "fail", "(I)V"⟩ ∈ gp_ws := gp_in4 (i := 26) rfl rfl
theorem iw_4_27 : Cond.code ⟨"GoldPlate$Parser", "fail", "(I)V"⟩ prog_6_method_25_code 2 none ∈ gp_ws := gp_in4 (i := 27) rfl rfl
theorem iw_4_28 : Cond.methodLink "GoldPlate$Parser" 135 ⟨"GoldPlate$Parser", "expression", "()V"⟩ ∈ gp_ws := gp_in4 (i := 28) rfl rfl
theorem iw_4_30 : Cond.instanceMethod ⟨"GoldPlate$Parser", "expression", "()V"⟩ ∈ gp_ws := gp_in4 (i := 30) rfl rfl
theorem iw_4_31 : Cond.code ⟨"GoldPlate$Parser", "expression", "()V"⟩ prog_6_method_20_code 4 none ∈ gp_ws := gp_in4 (i := 31) rfl rfl
theorem iw_4_32 : Cond.methodLink "GoldPlate$Parser" 179 ⟨"GoldPlate$Parser", "unit", "()V"⟩ ∈ gp_ws := gp_in4 (i := 32) rfl rfl
theorem iw_4_34 : Cond.instanceMethod ⟨"GoldPlate$Parser", "unit", "()V"⟩ ∈ gp_ws := gp_in4 (i := 34) rfl rfl
theorem iw_4_35 : Cond.code ⟨"GoldPlate$Parser", "unit", "()V"⟩ prog_6_method_21_code 2 none ∈ gp_ws := gp_in4 (i := 35) rfl rfl
theorem iw_4_36 : Cond.methodLink "GoldPlate$Parser" 173 ⟨"GoldPlate$Parser", "emit", "(II)V"⟩ ∈ gp_ws := gp_in4 (i := 36) rfl rfl
theorem iw_4_38 : Cond.instanceMethod ⟨"GoldPlate$Parser", "emit", "(II)V"⟩ ∈ gp_ws := gp_in4 (i := 38) rfl rfl
theorem iw_4_39 : Cond.code ⟨"GoldPlate$Parser", "emit", "(II)V"⟩ prog_6_method_26_code 3 none ∈ gp_ws := gp_in4 (i := 39) rfl rfl
theorem iw_4_40 : Cond.methodLink "GoldPlate$Parser" 182 ⟨"GoldPlate$Parser", "part", "()V"⟩ ∈ gp_ws := gp_in4 (i := 40) rfl rfl
theorem iw_4_42 : Cond.instanceMethod ⟨"GoldPlate$Parser", "part", "()V"⟩ ∈ gp_ws := gp_in4 (i := 42) rfl rfl
theorem iw_4_43 : Cond.code ⟨"GoldPlate$Parser", "part", "()V"⟩ prog_6_method_22_code 1 none ∈ gp_ws := gp_in4 (i := 43) rfl rfl
theorem iw_4_44 : Cond.methodLink "GoldPlate$Parser" 141 ⟨"GoldPlate$Parser", "condition", "(I)V"⟩ ∈ gp_ws := gp_in4 (i := 44) rfl rfl
theorem iw_4_46 : Cond.instanceMethod ⟨"GoldPlate$Parser", "condition", "(I)V"⟩ ∈ gp_ws := gp_in4 (i := 46) rfl rfl
theorem iw_4_47 : Cond.code ⟨"GoldPlate$Parser", "condition", "(I)V"⟩ prog_6_method_17_code 4 none ∈ gp_ws := gp_in4 (i := 47) rfl rfl
theorem iw_4_48 : Cond.methodLink "GoldPlate$Parser" 168 ⟨"GoldPlate$Parser", "check", "(I)V"⟩ ∈ gp_ws := gp_in4 (i := 48) rfl rfl
theorem iw_4_50 : Cond.instanceMethod ⟨"GoldPlate$Parser", "check", "(I)V"⟩ ∈ gp_ws := gp_in4 (i := 50) rfl rfl
theorem iw_4_51 : Cond.code ⟨"GoldPlate$Parser", "check", "(I)V"⟩ prog_6_method_18_code 5 none ∈ gp_ws := gp_in4 (i := 51) rfl rfl
theorem iw_4_52 : Cond.methodLink "GoldPlate$Parser" 156 ⟨"GoldPlate$Parser", "expect", "(I)V"⟩ ∈ gp_ws := gp_in4 (i := 52) rfl rfl
theorem iw_4_54 : Cond.instanceMethod ⟨"GoldPlate$Parser", "expect", "(I)V"⟩ ∈ gp_ws := gp_in4 (i := 54) rfl rfl
theorem iw_4_55 : Cond.code ⟨"GoldPlate$Parser", "expect", "(I)V"⟩ prog_6_method_23_code 2 none ∈ gp_ws := gp_in4 (i := 55) rfl rfl
theorem iw_4_56 : Cond.methodLink "GoldPlate$Parser" 176 ⟨"GoldPlate$Parser", "expectComparison", "(I)V"⟩ ∈ gp_ws := gp_in4 (i := 56) rfl rfl
theorem iw_4_58 : Cond.instanceMethod ⟨"GoldPlate$Parser", "expectComparison", "(I)V"⟩ ∈ gp_ws := gp_in4 (i := 58) rfl rfl
theorem iw_4_59 : Cond.code ⟨"GoldPlate$Parser", "expectComparison", "(I)V"⟩ prog_6_method_19_code 2 none ∈ gp_ws := gp_in4 (i := 59) rfl rfl
theorem iw_4_60 : Cond.methodLink "GoldPlate$Parser" 153 ⟨"GoldPlate$Parser", "readNumber", "(I)V"⟩ ∈ gp_ws := gp_in4 (i := 60) rfl rfl
theorem iw_4_62 : Cond.instanceMethod ⟨"GoldPlate$Parser", "readNumber", "(I)V"⟩ ∈ gp_ws := gp_in4 (i := 62) rfl rfl
theorem iw_4_63 : Cond.code ⟨"GoldPlate$Parser", "readNumber", "(I)V"⟩ prog_6_method_16_code 4 none ∈ gp_ws := gp_in4 (i := 63) rfl rfl
theorem iw_4_64 : Cond.methodLink "GoldPlateLaw" 55 ⟨"GoldPlate", "fault", "(I)I"⟩ ∈ gp_ws := gp_in4 (i := 64) rfl rfl
theorem iw_4_65 : Cond.instanceMethod ⟨"GoldPlate", "fault", "(I)I"⟩ ∈ gp_ws := gp_in4 (i := 65) rfl rfl
theorem iw_4_66 : Cond.selects "GoldPlate" ⟨"GoldPlate", "fault", "(I)I"⟩ ⟨"GoldPlate", "fault", "(I)I"⟩ ∈ gp_ws := gp_in4 (i := 66) rfl rfl
theorem iw_4_67 : Cond.code ⟨"GoldPlate", "fault", "(I)I"⟩ prog_1_method_17_code 2 (some .int) ∈ gp_ws := gp_in4 (i := 67) rfl rfl
theorem iw_4_68 : Cond.methodLink "GoldPlateLaw" 59 ⟨"GoldPlate", "readings", "(II)I"⟩ ∈ gp_ws := gp_in4 (i := 68) rfl rfl
theorem iw_4_69 : Cond.instanceMethod ⟨"GoldPlate", "readings", "(II)I"⟩ ∈ gp_ws := gp_in4 (i := 69) rfl rfl
theorem iw_4_70 : Cond.selects "GoldPlate" ⟨"GoldPlate", "readings", "(II)I"⟩ ⟨"GoldPlate", "readings", "(II)I"⟩ ∈ gp_ws := gp_in4 (i := 70) rfl rfl
theorem iw_4_71 : Cond.code ⟨"GoldPlate", "readings", "(II)I"⟩ prog_1_method_18_code 4 (some .int) ∈ gp_ws := gp_in4 (i := 71) rfl rfl
theorem iw_4_72 : Cond.methodLink "GoldPlate" 212 ⟨"GoldPlate$Search", "setUp", "(JILGoldPlate$Mind;)V"⟩ ∈ gp_ws := gp_in4 (i := 72) rfl rfl
theorem iw_4_73 : Cond.instanceMethod ⟨"GoldPlate$Search", "setUp", "(JILGoldPlate$Mind;)V"⟩ ∈ gp_ws := gp_in4 (i := 73) rfl rfl
theorem iw_4_74 : Cond.selects "GoldPlate$Search" ⟨"GoldPlate$Search", "setUp", "(JILGoldPlate$Mind;)V"⟩ ⟨"GoldPlate$Search", "setUp", "(JILGoldPlate$Mind;)V"⟩ ∈ gp_ws := gp_in4 (i := 74) rfl rfl
theorem iw_4_75 : Cond.code ⟨"GoldPlate$Search", "setUp", "(JILGoldPlate$Mind;)V"⟩ prog_8_method_2_code 7 none ∈ gp_ws := gp_in4 (i := 75) rfl rfl
theorem iw_4_76 : Cond.methodLink "GoldPlate$Search" 38 ⟨"java/lang/Math", "min", "(II)I"⟩ ∈ gp_ws := gp_in4 (i := 76) rfl rfl
theorem iw_4_78 : Cond.methodLink "GoldPlate$Search" 57 ⟨"GoldPlate$Search", "takingsOf", "(LGoldPlate$Mark;LGoldPlate$Mind;I)I"⟩ ∈ gp_ws := gp_in4 (i := 78) rfl rfl
theorem iw_4_80 : Cond.instanceMethod ⟨"GoldPlate$Search", "takingsOf", "(LGoldPlate$Mark;LGoldPlate$Mind;I)I"⟩ ∈ gp_ws := gp_in4 (i := 80) rfl rfl
theorem iw_4_81 : Cond.code ⟨"GoldPlate$Search", "takingsOf", "(LGoldPlate$Mark;LGoldPlate$Mind;I)I"⟩ prog_8_method_3_code 5 (some .int) ∈ gp_ws := gp_in4 (i := 81) rfl rfl
theorem iw_4_82 : Cond.methodLink "GoldPlate$Search" 68 ⟨"GoldPlate$Plate", "canSee", "(LGoldPlate$Mind;LGoldPlate$Mark;)Z"⟩ ∈ gp_ws := gp_in4 (i := 82) rfl rfl
theorem iw_4_83 : Cond.instanceMethod ⟨"GoldPlate$Plate", "canSee", "(LGoldPlate$Mind;LGoldPlate$Mark;)Z"⟩ ∈ gp_ws := gp_in4 (i := 83) rfl rfl
theorem iw_4_84 : Cond.selects "GoldPlate$Plate" ⟨"GoldPlate$Plate", "canSee", "(LGoldPlate$Mind;LGoldPlate$Mark;)Z"⟩ ⟨"GoldPlate$Plate", "canSee", "(LGoldPlate$Mind;LGoldPlate$Mark;)Z"⟩ ∈ gp_ws := gp_in4 (i := 84) rfl rfl
theorem iw_4_85 : Cond.code ⟨"GoldPlate$Plate", "canSee", "(LGoldPlate$Mind;LGoldPlate$Mark;)Z"⟩ prog_7_method_8_code 3 (some .boolean) ∈ gp_ws := gp_in4 (i := 85) rfl rfl
theorem iw_4_86 : Cond.methodLink "GoldPlate$Search" 61 ⟨"GoldPlate$Search", "priceAll", "(ILGoldPlate$Mind;)V"⟩ ∈ gp_ws := gp_in4 (i := 86) rfl rfl
theorem iw_4_88 : Cond.instanceMethod ⟨"GoldPlate$Search", "priceAll", "(ILGoldPlate$Mind;)V"⟩ ∈ gp_ws := gp_in4 (i := 88) rfl rfl
theorem iw_4_89 : Cond.code ⟨"GoldPlate$Search", "priceAll", "(ILGoldPlate$Mind;)V"⟩ prog_8_method_4_code 6 none ∈ gp_ws := gp_in4 (i := 89) rfl rfl
theorem iw_4_90 : Cond.methodLink "GoldPlate$Search" 89 ⟨"GoldPlate$Sums", "clear", "()V"⟩ ∈ gp_ws := gp_in4 (i := 90) rfl rfl
theorem iw_4_91 : Cond.instanceMethod ⟨"GoldPlate$Sums", "clear", "()V"⟩ ∈ gp_ws := gp_in4 (i := 91) rfl rfl
theorem iw_4_92 : Cond.selects "GoldPlate$Sums" ⟨"GoldPlate$Sums", "clear", "()V"⟩ ⟨"GoldPlate$Sums", "clear", "()V"⟩ ∈ gp_ws := gp_in4 (i := 92) rfl rfl
theorem iw_4_93 : Cond.code ⟨"GoldPlate$Sums", "clear", "()V"⟩ prog_10_method_2_code 2 none ∈ gp_ws := gp_in4 (i := 93) rfl rfl
theorem iw_4_94 : Cond.methodLink "GoldPlate$Search" 103 ⟨"GoldPlate$Plate", "leftOf", "(LGoldPlate$Mark;)I"⟩ ∈ gp_ws := gp_in4 (i := 94) rfl rfl
theorem iw_4_95 : Cond.methodLink "GoldPlate$Search" 107 ⟨"java/lang/Math", "max", "(II)I"⟩ ∈ gp_ws := gp_in4 (i := 95) rfl rfl
theorem iw_4_96 : Cond.methodLink "GoldPlate$Search" 110 ⟨"GoldPlate$Plate", "wearOf", "(LGoldPlate$Mark;)I"⟩ ∈ gp_ws := gp_in4 (i := 96) rfl rfl
theorem iw_4_97 : Cond.methodLink "GoldPlate$Search" 113 ⟨"GoldPlate$Mind", "priceBy", "(LGoldPlate$Sums;)I"⟩ ∈ gp_ws := gp_in4 (i := 97) rfl rfl
theorem iw_4_98 : Cond.instanceMethod ⟨"GoldPlate$Mind", "priceBy", "(LGoldPlate$Sums;)I"⟩ ∈ gp_ws := gp_in4 (i := 98) rfl rfl
theorem iw_4_99 : Cond.selects "GoldPlate$Mind" ⟨"GoldPlate$Mind", "priceBy", "(LGoldPlate$Sums;)I"⟩ ⟨"GoldPlate$Mind", "priceBy", "(LGoldPlate$Sums;)I"⟩ ∈ gp_ws := gp_in4 (i := 99) rfl rfl
theorem iw_4_100 : Cond.code ⟨"GoldPlate$Mind", "priceBy", "(LGoldPlate$Sums;)I"⟩ prog_5_method_3_code 5 (some .int) ∈ gp_ws := gp_in4 (i := 100) rfl rfl
theorem iw_4_101 : Cond.methodLink "GoldPlate$Mind" 56 ⟨"GoldPlate$Sums", "work", "([III)I"⟩ ∈ gp_ws := gp_in4 (i := 101) rfl rfl
theorem iw_4_102 : Cond.instanceMethod ⟨"GoldPlate$Sums", "work", "([III)I"⟩ ∈ gp_ws := gp_in4 (i := 102) rfl rfl
theorem iw_4_103 : Cond.selects "GoldPlate$Sums" ⟨"GoldPlate$Sums", "work", "([III)I"⟩ ⟨"GoldPlate$Sums", "work", "([III)I"⟩ ∈ gp_ws := gp_in4 (i := 103) rfl rfl
theorem iw_4_104 : Cond.code ⟨"GoldPlate$Sums", "work", "([III)I"⟩ prog_10_method_3_code 5 (some .int) ∈ gp_ws := gp_in4 (i := 104) rfl rfl
theorem iw_4_105 : Cond.methodLink "GoldPlate$Sums" 20 ⟨"GoldPlate$Sums", "step", "(II)V"⟩ ∈ gp_ws := gp_in4 (i := 105) rfl rfl
theorem iw_4_107 : Cond.instanceMethod ⟨"GoldPlate$Sums", "step", "(II)V"⟩ ∈ gp_ws := gp_in4 (i := 107) rfl rfl
theorem iw_4_108 : Cond.code ⟨"GoldPlate$Sums", "step", "(II)V"⟩ prog_10_method_4_code 4 none ∈ gp_ws := gp_in4 (i := 108) rfl rfl
theorem iw_4_109 : Cond.methodLink "GoldPlate$Sums" 24 ⟨"GoldPlate$Sums", "join", "(III)I"⟩ ∈ gp_ws := gp_in4 (i := 109) rfl rfl
theorem iw_4_110 : Cond.static ⟨"GoldPlate$Sums", "join", "(III)I"⟩ ∈ gp_ws := gp_in4 (i := 110) rfl rfl
theorem iw_4_111 : Cond.code ⟨"GoldPlate$Sums", "join", "(III)I"⟩ prog_10_method_5_code 3 (some .int) ∈ gp_ws := gp_in4 (i := 111) rfl rfl
theorem iw_4_112 : Cond.methodLink "GoldPlate$Mind" 62 ⟨"java/lang/Math", "min", "(II)I"⟩ ∈ gp_ws := gp_in4 (i := 112) rfl rfl
theorem iw_4_113 : Cond.methodLink "GoldPlate$Mind" 68 ⟨"java/lang/Math", "max", "(II)I"⟩ ∈ gp_ws := gp_in4 (i := 113) rfl rfl
theorem iw_4_114 : Cond.methodLink "GoldPlate$Search" 65 ⟨"GoldPlate$Search", "setFloors", "()V"⟩ ∈ gp_ws := gp_in4 (i := 114) rfl rfl
theorem iw_4_116 : Cond.instanceMethod ⟨"GoldPlate$Search", "setFloors", "()V"⟩ ∈ gp_ws := gp_in4 (i := 116) rfl rfl
theorem iw_4_117 : Cond.code ⟨"GoldPlate$Search", "setFloors", "()V"⟩ prog_8_method_5_code 4 none ∈ gp_ws := gp_in4 (i := 117) rfl rfl
theorem iw_4_118 : Cond.methodLink "GoldPlate" 216 ⟨"GoldPlate$Search", "countUpTo", "(I)I"⟩ ∈ gp_ws := gp_in4 (i := 118) rfl rfl
theorem iw_4_119 : Cond.instanceMethod ⟨"GoldPlate$Search", "countUpTo", "(I)I"⟩ ∈ gp_ws := gp_in4 (i := 119) rfl rfl
theorem iw_4_120 : Cond.selects "GoldPlate$Search" ⟨"GoldPlate$Search", "countUpTo", "(I)I"⟩ ⟨"GoldPlate$Search", "countUpTo", "(I)I"⟩ ∈ gp_ws := gp_in4 (i := 120) rfl rfl
theorem iw_4_121 : Cond.code ⟨"GoldPlate$Search", "countUpTo", "(I)I"⟩ prog_8_method_6_code 2 (some .int) ∈ gp_ws := gp_in4 (i := 121) rfl rfl
theorem iw_4_122 : Cond.methodLink "GoldPlate$Search" 127 ⟨"GoldPlate$Search", "walk", "(IIII)V"⟩ ∈ gp_ws := gp_in4 (i := 122) rfl rfl
theorem iw_4_124 : Cond.instanceMethod ⟨"GoldPlate$Search", "walk", "(IIII)V"⟩ ∈ gp_ws := gp_in4 (i := 124) rfl rfl
theorem iw_4_125 : Cond.code ⟨"GoldPlate$Search", "walk", "(IIII)V"⟩ prog_8_method_8_code 12 none ∈ gp_ws := gp_in4 (i := 125) rfl rfl
theorem iw_4_126 : Cond.methodLink "GoldPlate$Search" 131 ⟨"GoldPlate$Search", "arrive", "(I)V"⟩ ∈ gp_ws := gp_in4 (i := 126) rfl rfl
theorem iw_4_128 : Cond.instanceMethod ⟨"GoldPlate$Search", "arrive", "(I)V"⟩ ∈ gp_ws := gp_in4 (i := 128) rfl rfl
theorem iw_4_129 : Cond.code ⟨"GoldPlate$Search", "arrive", "(I)V"⟩ prog_8_method_9_code 3 none ∈ gp_ws := gp_in4 (i := 129) rfl rfl
theorem iw_4_130 : Cond.methodLink "GoldPlate$Search" 135 ⟨"GoldPlate$Mark", "takenFor", "(I)I"⟩ ∈ gp_ws := gp_in4 (i := 130) rfl rfl
theorem iw_4_131 : Cond.instanceMethod ⟨"GoldPlate$Mark", "takenFor", "(I)I"⟩ ∈ gp_ws := gp_in4 (i := 131) rfl rfl
theorem iw_4_132 : Cond.selects "GoldPlate$Mark" ⟨"GoldPlate$Mark", "takenFor", "(I)I"⟩ ⟨"GoldPlate$Mark", "takenFor", "(I)I"⟩ ∈ gp_ws := gp_in4 (i := 132) rfl rfl
theorem iw_4_133 : Cond.code ⟨"GoldPlate$Mark", "takenFor", "(I)I"⟩ prog_4_method_2_code 2 (some .int) ∈ gp_ws := gp_in4 (i := 133) rfl rfl
theorem iw_4_134 : Cond.methodLink "GoldPlateLaw" 63 ⟨"GoldPlate", "cheapest", "(II)I"⟩ ∈ gp_ws := gp_in4 (i := 134) rfl rfl
theorem iw_4_135 : Cond.instanceMethod ⟨"GoldPlate", "cheapest", "(II)I"⟩ ∈ gp_ws := gp_in4 (i := 135) rfl rfl
theorem iw_4_136 : Cond.selects "GoldPlate" ⟨"GoldPlate", "cheapest", "(II)I"⟩ ⟨"GoldPlate", "cheapest", "(II)I"⟩ ∈ gp_ws := gp_in4 (i := 136) rfl rfl
theorem iw_4_137 : Cond.code ⟨"GoldPlate", "cheapest", "(II)I"⟩ prog_1_method_19_code 5 (some .int) ∈ gp_ws := gp_in4 (i := 137) rfl rfl
theorem iw_4_138 : Cond.methodLink "GoldPlate" 219 ⟨"GoldPlate", "findCheapest", "(JII)V"⟩ ∈ gp_ws := gp_in4 (i := 138) rfl rfl
theorem iw_4_140 : Cond.instanceMethod ⟨"GoldPlate", "findCheapest", "(JII)V"⟩ ∈ gp_ws := gp_in4 (i := 140) rfl rfl
theorem iw_4_141 : Cond.code ⟨"GoldPlate", "findCheapest", "(JII)V"⟩ prog_1_method_20_code 5 none ∈ gp_ws := gp_in4 (i := 141) rfl rfl
theorem iw_4_142 : Cond.methodLink "GoldPlate" 236 ⟨"GoldPlate$Search", "findCheapest", "()V"⟩ ∈ gp_ws := gp_in4 (i := 142) rfl rfl
theorem iw_4_143 : Cond.instanceMethod ⟨"GoldPlate$Search", "findCheapest", "()V"⟩ ∈ gp_ws := gp_in4 (i := 143) rfl rfl
theorem iw_4_144 : Cond.selects "GoldPlate$Search" ⟨"GoldPlate$Search", "findCheapest", "()V"⟩ ⟨"GoldPlate$Search", "findCheapest", "()V"⟩ ∈ gp_ws := gp_in4 (i := 144) rfl rfl
theorem iw_4_145 : Cond.code ⟨"GoldPlate$Search", "findCheapest", "()V"⟩ prog_8_method_7_code 1 none ∈ gp_ws := gp_in4 (i := 145) rfl rfl
theorem iw_4_146 : Cond.methodLink "GoldPlate" 223 ⟨"GoldPlate$Search", "cheapestTaking", "(I)I"⟩ ∈ gp_ws := gp_in4 (i := 146) rfl rfl
theorem iw_4_147 : Cond.instanceMethod ⟨"GoldPlate$Search", "cheapestTaking", "(I)I"⟩ ∈ gp_ws := gp_in4 (i := 147) rfl rfl
theorem iw_4_148 : Cond.selects "GoldPlate$Search" ⟨"GoldPlate$Search", "cheapestTaking", "(I)I"⟩ ⟨"GoldPlate$Search", "cheapestTaking", "(I)I"⟩ ∈ gp_ws := gp_in4 (i := 148) rfl rfl
theorem iw_4_149 : Cond.code ⟨"GoldPlate$Search", "cheapestTaking", "(I)I"⟩ prog_8_method_10_code 2 (some .int) ∈ gp_ws := gp_in4 (i := 149) rfl rfl
theorem iw_4_150 : Cond.methodLink "GoldPlate" 229 ⟨"GoldPlate$Search", "partingPlace", "()I"⟩ ∈ gp_ws := gp_in4 (i := 150) rfl rfl
theorem iw_4_151 : Cond.instanceMethod ⟨"GoldPlate$Search", "partingPlace", "()I"⟩ ∈ gp_ws := gp_in4 (i := 151) rfl rfl
theorem iw_4_152 : Cond.selects "GoldPlate$Search" ⟨"GoldPlate$Search", "partingPlace", "()I"⟩ ⟨"GoldPlate$Search", "partingPlace", "()I"⟩ ∈ gp_ws := gp_in4 (i := 152) rfl rfl
theorem iw_4_153 : Cond.code ⟨"GoldPlate$Search", "partingPlace", "()I"⟩ prog_8_method_12_code 2 (some .int) ∈ gp_ws := gp_in4 (i := 153) rfl rfl
theorem iw_4_154 : Cond.methodLink "GoldPlate" 233 ⟨"GoldPlate$Search", "fallsFrom", "(I)I"⟩ ∈ gp_ws := gp_in4 (i := 154) rfl rfl
theorem iw_4_155 : Cond.instanceMethod ⟨"GoldPlate$Search", "fallsFrom", "(I)I"⟩ ∈ gp_ws := gp_in4 (i := 155) rfl rfl
theorem iw_4_156 : Cond.selects "GoldPlate$Search" ⟨"GoldPlate$Search", "fallsFrom", "(I)I"⟩ ⟨"GoldPlate$Search", "fallsFrom", "(I)I"⟩ ∈ gp_ws := gp_in4 (i := 156) rfl rfl
theorem iw_4_157 : Cond.code ⟨"GoldPlate$Search", "fallsFrom", "(I)I"⟩ prog_8_method_13_code 4 (some .int) ∈ gp_ws := gp_in4 (i := 157) rfl rfl
theorem iw_4_158 : Cond.methodLink "GoldPlate$Search" 142 ⟨"GoldPlate$Plate", "rootsOf", "(I)I"⟩ ∈ gp_ws := gp_in4 (i := 158) rfl rfl
theorem iw_4_159 : Cond.instanceMethod ⟨"GoldPlate$Plate", "rootsOf", "(I)I"⟩ ∈ gp_ws := gp_in4 (i := 159) rfl rfl
theorem iw_4_160 : Cond.selects "GoldPlate$Plate" ⟨"GoldPlate$Plate", "rootsOf", "(I)I"⟩ ⟨"GoldPlate$Plate", "rootsOf", "(I)I"⟩ ∈ gp_ws := gp_in4 (i := 160) rfl rfl
theorem iw_4_161 : Cond.code ⟨"GoldPlate$Plate", "rootsOf", "(I)I"⟩ prog_7_method_7_code 4 (some .int) ∈ gp_ws := gp_in4 (i := 161) rfl rfl
theorem iw_4_162 : Cond.methodLink "GoldPlateLaw" 67 ⟨"GoldPlate", "alone", "(II)I"⟩ ∈ gp_ws := gp_in4 (i := 162) rfl rfl
theorem iw_4_163 : Cond.instanceMethod ⟨"GoldPlate", "alone", "(II)I"⟩ ∈ gp_ws := gp_in4 (i := 163) rfl rfl
theorem iw_4_164 : Cond.selects "GoldPlate" ⟨"GoldPlate", "alone", "(II)I"⟩ ⟨"GoldPlate", "alone", "(II)I"⟩ ∈ gp_ws := gp_in4 (i := 164) rfl rfl
theorem iw_4_165 : Cond.code ⟨"GoldPlate", "alone", "(II)I"⟩ prog_1_method_21_code 3 (some .int) ∈ gp_ws := gp_in4 (i := 165) rfl rfl
theorem iw_4_166 : Cond.methodLink "GoldPlate" 238 ⟨"GoldPlate$Plate", "all", "()I"⟩ ∈ gp_ws := gp_in4 (i := 166) rfl rfl
theorem iw_4_167 : Cond.instanceMethod ⟨"GoldPlate$Plate", "all", "()I"⟩ ∈ gp_ws := gp_in4 (i := 167) rfl rfl
theorem iw_4_168 : Cond.selects "GoldPlate$Plate" ⟨"GoldPlate$Plate", "all", "()I"⟩ ⟨"GoldPlate$Plate", "all", "()I"⟩ ∈ gp_ws := gp_in4 (i := 168) rfl rfl
theorem iw_4_169 : Cond.code ⟨"GoldPlate$Plate", "all", "()I"⟩ prog_7_method_3_code 1 (some .int) ∈ gp_ws := gp_in4 (i := 169) rfl rfl
theorem iw_4_170 : Cond.methodLink "GoldPlate" 241 ⟨"GoldPlate$Plate", "rights", "(ILGoldPlate$Mind;II)I"⟩ ∈ gp_ws := gp_in4 (i := 170) rfl rfl
theorem iw_4_171 : Cond.instanceMethod ⟨"GoldPlate$Plate", "rights", "(ILGoldPlate$Mind;II)I"⟩ ∈ gp_ws := gp_in4 (i := 171) rfl rfl
theorem iw_4_172 : Cond.selects "GoldPlate$Plate" ⟨"GoldPlate$Plate", "rights", "(ILGoldPlate$Mind;II)I"⟩ ⟨"GoldPlate$Plate", "rights", "(ILGoldPlate$Mind;II)I"⟩ ∈ gp_ws := gp_in4 (i := 172) rfl rfl
theorem iw_4_173 : Cond.code ⟨"GoldPlate$Plate", "rights", "(ILGoldPlate$Mind;II)I"⟩ prog_7_method_10_code 8 (some .int) ∈ gp_ws := gp_in4 (i := 173) rfl rfl
theorem iw_4_174 : Cond.methodLink "GoldPlate$Plate" 64 ⟨"GoldPlate$Plate", "isAble", "(LGoldPlate$Mind;III)Z"⟩ ∈ gp_ws := gp_in4 (i := 174) rfl rfl
theorem iw_4_175 : Cond.instanceMethod ⟨"GoldPlate$Plate", "isAble", "(LGoldPlate$Mind;III)Z"⟩ ∈ gp_ws := gp_in4 (i := 175) rfl rfl
theorem iw_4_176 : Cond.selects "GoldPlate$Plate" ⟨"GoldPlate$Plate", "isAble", "(LGoldPlate$Mind;III)Z"⟩ ⟨"GoldPlate$Plate", "isAble", "(LGoldPlate$Mind;III)Z"⟩ ∈ gp_ws := gp_in4 (i := 176) rfl rfl
theorem iw_4_177 : Cond.code ⟨"GoldPlate$Plate", "isAble", "(LGoldPlate$Mind;III)Z"⟩ prog_7_method_9_code 7 (some .boolean) ∈ gp_ws := gp_in4 (i := 177) rfl rfl
theorem iw_4_178 : Cond.methodLink "GoldPlate$Plate" 57 ⟨"java/lang/Math", "min", "(II)I"⟩ ∈ gp_ws := gp_in4 (i := 178) rfl rfl
theorem iw_4_179 : Cond.methodLink "GoldPlateLaw" 71 ⟨"GoldPlate", "bits", "(II)I"⟩ ∈ gp_ws := gp_in4 (i := 179) rfl rfl
theorem iw_4_180 : Cond.instanceMethod ⟨"GoldPlate", "bits", "(II)I"⟩ ∈ gp_ws := gp_in4 (i := 180) rfl rfl
theorem iw_4_181 : Cond.selects "GoldPlate" ⟨"GoldPlate", "bits", "(II)I"⟩ ⟨"GoldPlate", "bits", "(II)I"⟩ ∈ gp_ws := gp_in4 (i := 181) rfl rfl
theorem iw_4_182 : Cond.code ⟨"GoldPlate", "bits", "(II)I"⟩ prog_1_method_22_code 3 (some .int) ∈ gp_ws := gp_in4 (i := 182) rfl rfl
theorem iw_4_183 : Cond.methodLink "GoldPlate" 245 ⟨"GoldPlate$BitRow", "append", "(II)I"⟩ ∈ gp_ws := gp_in4 (i := 183) rfl rfl
theorem iw_4_184 : Cond.instanceMethod ⟨"GoldPlate$BitRow", "append", "(II)I"⟩ ∈ gp_ws := gp_in4 (i := 184) rfl rfl
theorem iw_4_185 : Cond.selects "GoldPlate$BitRow" ⟨"GoldPlate$BitRow", "append", "(II)I"⟩ ⟨"GoldPlate$BitRow", "append", "(II)I"⟩ ∈ gp_ws := gp_in4 (i := 185) rfl rfl
theorem iw_4_186 : Cond.code ⟨"GoldPlate$BitRow", "append", "(II)I"⟩ prog_2_method_2_code 4 (some .int) ∈ gp_ws := gp_in4 (i := 186) rfl rfl
theorem iw_4_187 : Cond.methodLink "GoldPlateLaw" 75 ⟨"GoldPlate", "grid", "(II)I"⟩ ∈ gp_ws := gp_in4 (i := 187) rfl rfl
theorem iw_4_188 : Cond.instanceMethod ⟨"GoldPlate", "grid", "(II)I"⟩ ∈ gp_ws := gp_in4 (i := 188) rfl rfl
theorem iw_4_189 : Cond.selects "GoldPlate" ⟨"GoldPlate", "grid", "(II)I"⟩ ⟨"GoldPlate", "grid", "(II)I"⟩ ∈ gp_ws := gp_in4 (i := 189) rfl rfl
theorem iw_4_190 : Cond.code ⟨"GoldPlate", "grid", "(II)I"⟩ prog_1_method_23_code 3 (some .int) ∈ gp_ws := gp_in4 (i := 190) rfl rfl
theorem iw_4_191 : Cond.methodLink "GoldPlateLaw" 79 ⟨"GoldPlate", "widths", "(II)I"⟩ ∈ gp_ws := gp_in4 (i := 191) rfl rfl
theorem iw_4_192 : Cond.instanceMethod ⟨"GoldPlate", "widths", "(II)I"⟩ ∈ gp_ws := gp_in4 (i := 192) rfl rfl
theorem iw_4_193 : Cond.selects "GoldPlate" ⟨"GoldPlate", "widths", "(II)I"⟩ ⟨"GoldPlate", "widths", "(II)I"⟩ ∈ gp_ws := gp_in4 (i := 193) rfl rfl
theorem iw_4_194 : Cond.code ⟨"GoldPlate", "widths", "(II)I"⟩ prog_1_method_24_code 3 (some .int) ∈ gp_ws := gp_in4 (i := 194) rfl rfl
theorem iw_4_195 : Cond.methodLink "GoldPlate" 249 ⟨"GoldPlate$Widths", "order", "(LGoldPlate$BitRow;LGoldPlate$Mind;LGoldPlate$Sums;)V"⟩ ∈ gp_ws := gp_in4 (i := 195) rfl rfl
theorem iw_4_196 : Cond.instanceMethod ⟨"GoldPlate$Widths", "order", "(LGoldPlate$BitRow;LGoldPlate$Mind;LGoldPlate$Sums;)V"⟩ ∈ gp_ws := gp_in4 (i := 196) rfl rfl
theorem iw_4_197 : Cond.selects "GoldPlate$Widths" ⟨"GoldPlate$Widths", "order", "(LGoldPlate$BitRow;LGoldPlate$Mind;LGoldPlate$Sums;)V"⟩ ⟨"GoldPlate$Widths", "order", "(LGoldPlate$BitRow;LGoldPlate$Mind;LGoldPlate$Sums;)V"⟩ ∈ gp_ws := gp_in4 (i := 197) rfl rfl
theorem iw_4_198 : Cond.code ⟨"GoldPlate$Widths", "order", "(LGoldPlate$BitRow;LGoldPlate$Mind;LGoldPlate$Sums;)V"⟩ prog_12_method_2_code 5 none ∈ gp_ws := gp_in4 (i := 198) rfl rfl
theorem iw_4_199 : Cond.methodLink "GoldPlate$Widths" 25 ⟨"GoldPlate$BitRow", "foldsBy", "(I)Z"⟩ ∈ gp_ws := gp_in4 (i := 199) rfl rfl
theorem iw_4_200 : Cond.instanceMethod ⟨"GoldPlate$BitRow", "foldsBy", "(I)Z"⟩ ∈ gp_ws := gp_in4 (i := 200) rfl rfl
theorem iw_4_201 : Cond.selects "GoldPlate$BitRow" ⟨"GoldPlate$BitRow", "foldsBy", "(I)Z"⟩ ⟨"GoldPlate$BitRow", "foldsBy", "(I)Z"⟩ ∈ gp_ws := gp_in4 (i := 201) rfl rfl
theorem iw_4_202 : Cond.code ⟨"GoldPlate$BitRow", "foldsBy", "(I)Z"⟩ prog_2_method_3_code 2 (some .boolean) ∈ gp_ws := gp_in4 (i := 202) rfl rfl
theorem iw_4_203 : Cond.methodLink "GoldPlate$Widths" 29 ⟨"GoldPlate$Widths", "rankOf", "(LGoldPlate$BitRow;ILGoldPlate$Mind;LGoldPlate$Sums;)I"⟩ ∈ gp_ws := gp_in4 (i := 203) rfl rfl
theorem iw_4_204 : Cond.static ⟨"GoldPlate$Widths", "rankOf", "(LGoldPlate$BitRow;ILGoldPlate$Mind;LGoldPlate$Sums;)I"⟩ ∈ gp_ws := gp_in4 (i := 204) rfl rfl
theorem iw_4_205 : Cond.code ⟨"GoldPlate$Widths", "rankOf", "(LGoldPlate$BitRow;ILGoldPlate$Mind;LGoldPlate$Sums;)I"⟩ prog_12_method_3_code 5 (some .int) ∈ gp_ws := gp_in4 (i := 205) rfl rfl
theorem iw_4_206 : Cond.methodLink "GoldPlate$Widths" 37 ⟨"GoldPlate$BitRow", "heightFor", "(I)I"⟩ ∈ gp_ws := gp_in4 (i := 206) rfl rfl
theorem iw_4_207 : Cond.instanceMethod ⟨"GoldPlate$BitRow", "heightFor", "(I)I"⟩ ∈ gp_ws := gp_in4 (i := 207) rfl rfl
theorem iw_4_208 : Cond.selects "GoldPlate$BitRow" ⟨"GoldPlate$BitRow", "heightFor", "(I)I"⟩ ⟨"GoldPlate$BitRow", "heightFor", "(I)I"⟩ ∈ gp_ws := gp_in4 (i := 208) rfl rfl
theorem iw_4_209 : Cond.code ⟨"GoldPlate$BitRow", "heightFor", "(I)I"⟩ prog_2_method_8_code 2 (some .int) ∈ gp_ws := gp_in4 (i := 209) rfl rfl
theorem iw_4_210 : Cond.methodLink "GoldPlate$Widths" 41 ⟨"GoldPlate$Sums", "clear", "()V"⟩ ∈ gp_ws := gp_in4 (i := 210) rfl rfl
theorem iw_4_211 : Cond.methodLink "GoldPlate$Widths" 49 ⟨"GoldPlate$Widths", "isPrime", "(I)Z"⟩ ∈ gp_ws := gp_in4 (i := 211) rfl rfl
theorem iw_4_212 : Cond.static ⟨"GoldPlate$Widths", "isPrime", "(I)Z"⟩ ∈ gp_ws := gp_in4 (i := 212) rfl rfl
theorem iw_4_213 : Cond.code ⟨"GoldPlate$Widths", "isPrime", "(I)Z"⟩ prog_12_method_4_code 2 (some .boolean) ∈ gp_ws := gp_in4 (i := 213) rfl rfl
theorem iw_4_214 : Cond.methodLink "GoldPlate$Widths" 52 ⟨"GoldPlate$BitRow", "edges", "(I)I"⟩ ∈ gp_ws := gp_in4 (i := 214) rfl rfl
theorem iw_4_215 : Cond.instanceMethod ⟨"GoldPlate$BitRow", "edges", "(I)I"⟩ ∈ gp_ws := gp_in4 (i := 215) rfl rfl
theorem iw_4_216 : Cond.selects "GoldPlate$BitRow" ⟨"GoldPlate$BitRow", "edges", "(I)I"⟩ ⟨"GoldPlate$BitRow", "edges", "(I)I"⟩ ∈ gp_ws := gp_in4 (i := 216) rfl rfl
theorem iw_4_217 : Cond.code ⟨"GoldPlate$BitRow", "edges", "(I)I"⟩ prog_2_method_4_code 5 (some .int) ∈ gp_ws := gp_in4 (i := 217) rfl rfl
theorem iw_4_218 : Cond.methodLink "GoldPlate$Widths" 55 ⟨"java/lang/Math", "abs", "(I)I"⟩ ∈ gp_ws := gp_in4 (i := 218) rfl rfl
theorem iw_4_219 : Cond.static ⟨"java/lang/Math", "abs", "(I)I"⟩ ∈ gp_ws := gp_in4 (i := 219) rfl rfl
theorem iw_4_220 : Cond.code ⟨"java/lang/Math", "abs", "(I)I"⟩ prog_17_method_59_code 1 (some .int) ∈ gp_ws := gp_in4 (i := 220) rfl rfl
theorem iw_4_221 : Cond.methodLink "GoldPlate$Widths" 60 ⟨"GoldPlate$Mind", "rankBy", "(LGoldPlate$Sums;)I"⟩ ∈ gp_ws := gp_in4 (i := 221) rfl rfl
theorem iw_4_222 : Cond.instanceMethod ⟨"GoldPlate$Mind", "rankBy", "(LGoldPlate$Sums;)I"⟩ ∈ gp_ws := gp_in4 (i := 222) rfl rfl
theorem iw_4_223 : Cond.selects "GoldPlate$Mind" ⟨"GoldPlate$Mind", "rankBy", "(LGoldPlate$Sums;)I"⟩ ⟨"GoldPlate$Mind", "rankBy", "(LGoldPlate$Sums;)I"⟩ ∈ gp_ws := gp_in4 (i := 223) rfl rfl
theorem iw_4_224 : Cond.code ⟨"GoldPlate$Mind", "rankBy", "(LGoldPlate$Sums;)I"⟩ prog_5_method_4_code 2 (some .int) ∈ gp_ws := gp_in4 (i := 224) rfl rfl
theorem iw_4_225 : Cond.methodLink "GoldPlate$Widths" 33 ⟨"GoldPlate$Widths", "insert", "(II)V"⟩ ∈ gp_ws := gp_in4 (i := 225) rfl rfl
theorem iw_4_227 : Cond.instanceMethod ⟨"GoldPlate$Widths", "insert", "(II)V"⟩ ∈ gp_ws := gp_in4 (i := 227) rfl rfl
theorem iw_4_228 : Cond.code ⟨"GoldPlate$Widths", "insert", "(II)V"⟩ prog_12_method_5_code 5 none ∈ gp_ws := gp_in4 (i := 228) rfl rfl
theorem iw_4_229 : Cond.methodLink "GoldPlateLaw" 83 ⟨"GoldPlate", "laid", "(III)I"⟩ ∈ gp_ws := gp_in4 (i := 229) rfl rfl
theorem iw_4_230 : Cond.instanceMethod ⟨"GoldPlate", "laid", "(III)I"⟩ ∈ gp_ws := gp_in4 (i := 230) rfl rfl
theorem iw_4_231 : Cond.selects "GoldPlate" ⟨"GoldPlate", "laid", "(III)I"⟩ ⟨"GoldPlate", "laid", "(III)I"⟩ ∈ gp_ws := gp_in4 (i := 231) rfl rfl
theorem iw_4_232 : Cond.code ⟨"GoldPlate", "laid", "(III)I"⟩ prog_1_method_25_code 5 (some .int) ∈ gp_ws := gp_in4 (i := 232) rfl rfl
theorem iw_4_233 : Cond.methodLink "GoldPlate" 259 ⟨"GoldPlate$BitRow", "foldsBy", "(I)Z"⟩ ∈ gp_ws := gp_in4 (i := 233) rfl rfl
theorem iw_4_234 : Cond.methodLink "GoldPlate" 266 ⟨"GoldPlate$BitRow", "agreements", "(LGoldPlate$BitRow;II)I"⟩ ∈ gp_ws := gp_in4 (i := 234) rfl rfl
theorem iw_4_235 : Cond.instanceMethod ⟨"GoldPlate$BitRow", "agreements", "(LGoldPlate$BitRow;II)I"⟩ ∈ gp_ws := gp_in4 (i := 235) rfl rfl
theorem iw_4_236 : Cond.selects "GoldPlate$BitRow" ⟨"GoldPlate$BitRow", "agreements", "(LGoldPlate$BitRow;II)I"⟩ ⟨"GoldPlate$BitRow", "agreements", "(LGoldPlate$BitRow;II)I"⟩ ∈ gp_ws := gp_in4 (i := 236) rfl rfl
theorem iw_4_237 : Cond.code ⟨"GoldPlate$BitRow", "agreements", "(LGoldPlate$BitRow;II)I"⟩ prog_2_method_6_code 7 (some .int) ∈ gp_ws := gp_in4 (i := 237) rfl rfl
theorem iw_4_238 : Cond.methodLink "GoldPlate$BitRow" 19 ⟨"GoldPlate$BitRow", "heightFor", "(I)I"⟩ ∈ gp_ws := gp_in4 (i := 238) rfl rfl
theorem iw_4_239 : Cond.methodLink "GoldPlate$BitRow" 23 ⟨"GoldPlate$BitRow", "placeOf", "(IIII)I"⟩ ∈ gp_ws := gp_in4 (i := 239) rfl rfl
theorem iw_5_0 : Cond.static ⟨"GoldPlate$BitRow", "placeOf", "(IIII)I"⟩ ∈ gp_ws := gp_in5 (i := 0) rfl rfl
theorem iw_5_1 : Cond.code ⟨"GoldPlate$BitRow", "placeOf", "(IIII)I"⟩ prog_2_method_5_code 4 (some .int) ∈ gp_ws := gp_in5 (i := 1) rfl rfl
theorem iw_5_2 : Cond.methodLink "GoldPlate" 270 ⟨"GoldPlate$BitRow", "isHalf", "(LGoldPlate$BitRow;II)Z"⟩ ∈ gp_ws := gp_in5 (i := 2) rfl rfl
theorem iw_5_3 : Cond.instanceMethod ⟨"GoldPlate$BitRow", "isHalf", "(LGoldPlate$BitRow;II)Z"⟩ ∈ gp_ws := gp_in5 (i := 3) rfl rfl
theorem iw_5_4 : Cond.selects "GoldPlate$BitRow" ⟨"GoldPlate$BitRow", "isHalf", "(LGoldPlate$BitRow;II)Z"⟩ ⟨"GoldPlate$BitRow", "isHalf", "(LGoldPlate$BitRow;II)Z"⟩ ∈ gp_ws := gp_in5 (i := 4) rfl rfl
theorem iw_5_5 : Cond.code ⟨"GoldPlate$BitRow", "isHalf", "(LGoldPlate$BitRow;II)Z"⟩ prog_2_method_7_code 7 (some .boolean) ∈ gp_ws := gp_in5 (i := 5) rfl rfl
theorem iw_5_6 : Cond.methodLink "GoldPlateLaw" 88 ⟨"GoldPlate", "beat", "(IIII)I"⟩ ∈ gp_ws := gp_in5 (i := 6) rfl rfl
theorem iw_5_7 : Cond.instanceMethod ⟨"GoldPlate", "beat", "(IIII)I"⟩ ∈ gp_ws := gp_in5 (i := 7) rfl rfl
theorem iw_5_8 : Cond.selects "GoldPlate" ⟨"GoldPlate", "beat", "(IIII)I"⟩ ⟨"GoldPlate", "beat", "(IIII)I"⟩ ∈ gp_ws := gp_in5 (i := 8) rfl rfl
theorem iw_5_9 : Cond.code ⟨"GoldPlate", "beat", "(IIII)I"⟩ prog_1_method_26_code 6 (some .int) ∈ gp_ws := gp_in5 (i := 9) rfl rfl
theorem iw_5_10 : Cond.constant "GoldPlate" 274 (999999) ∈ gp_ws := gp_in5 (i := 10) rfl rfl
theorem iw_5_11 : Cond.methodLink "GoldPlate" 275 ⟨"GoldPlate$Sky", "add", "(IIII)I"⟩ ∈ gp_ws := gp_in5 (i := 11) rfl rfl
theorem iw_5_12 : Cond.instanceMethod ⟨"GoldPlate$Sky", "add", "(IIII)I"⟩ ∈ gp_ws := gp_in5 (i := 12) rfl rfl
theorem iw_5_13 : Cond.selects "GoldPlate$Sky" ⟨"GoldPlate$Sky", "add", "(IIII)I"⟩ ⟨"GoldPlate$Sky", "add", "(IIII)I"⟩ ∈ gp_ws := gp_in5 (i := 13) rfl rfl
theorem iw_5_14 : Cond.code ⟨"GoldPlate$Sky", "add", "(IIII)I"⟩ prog_9_method_2_code 5 (some .int) ∈ gp_ws := gp_in5 (i := 14) rfl rfl
theorem iw_5_15 : Cond.methodLink "GoldPlateLaw" 93 ⟨"GoldPlate", "found", "(III)Z"⟩ ∈ gp_ws := gp_in5 (i := 15) rfl rfl
theorem iw_5_16 : Cond.instanceMethod ⟨"GoldPlate", "found", "(III)Z"⟩ ∈ gp_ws := gp_in5 (i := 16) rfl rfl
theorem iw_5_17 : Cond.selects "GoldPlate" ⟨"GoldPlate", "found", "(III)Z"⟩ ⟨"GoldPlate", "found", "(III)Z"⟩ ∈ gp_ws := gp_in5 (i := 17) rfl rfl
theorem iw_5_18 : Cond.code ⟨"GoldPlate", "found", "(III)Z"⟩ prog_1_method_27_code 5 (some .boolean) ∈ gp_ws := gp_in5 (i := 18) rfl rfl
theorem iw_5_19 : Cond.constant "GoldPlate" 279 (9999999) ∈ gp_ws := gp_in5 (i := 19) rfl rfl
theorem iw_5_20 : Cond.methodLink "GoldPlate" 280 ⟨"GoldPlate$Sky", "has", "(I)Z"⟩ ∈ gp_ws := gp_in5 (i := 20) rfl rfl
theorem iw_5_21 : Cond.instanceMethod ⟨"GoldPlate$Sky", "has", "(I)Z"⟩ ∈ gp_ws := gp_in5 (i := 21) rfl rfl
theorem iw_5_22 : Cond.selects "GoldPlate$Sky" ⟨"GoldPlate$Sky", "has", "(I)Z"⟩ ⟨"GoldPlate$Sky", "has", "(I)Z"⟩ ∈ gp_ws := gp_in5 (i := 22) rfl rfl
theorem iw_5_23 : Cond.code ⟨"GoldPlate$Sky", "has", "(I)Z"⟩ prog_9_method_3_code 2 (some .boolean) ∈ gp_ws := gp_in5 (i := 23) rfl rfl
theorem iw_5_24 : Cond.methodLink "GoldPlateLaw" 97 ⟨"GoldPlate", "far", "(II)Z"⟩ ∈ gp_ws := gp_in5 (i := 24) rfl rfl
theorem iw_5_25 : Cond.instanceMethod ⟨"GoldPlate", "far", "(II)Z"⟩ ∈ gp_ws := gp_in5 (i := 25) rfl rfl
theorem iw_5_26 : Cond.selects "GoldPlate" ⟨"GoldPlate", "far", "(II)Z"⟩ ⟨"GoldPlate", "far", "(II)Z"⟩ ∈ gp_ws := gp_in5 (i := 26) rfl rfl
theorem iw_5_27 : Cond.code ⟨"GoldPlate", "far", "(II)Z"⟩ prog_1_method_28_code 3 (some .boolean) ∈ gp_ws := gp_in5 (i := 27) rfl rfl
theorem iw_5_28 : Cond.methodLink "GoldPlateLaw" 101 ⟨"GoldPlate", "years", "(I)I"⟩ ∈ gp_ws := gp_in5 (i := 28) rfl rfl
theorem iw_5_29 : Cond.instanceMethod ⟨"GoldPlate", "years", "(I)I"⟩ ∈ gp_ws := gp_in5 (i := 29) rfl rfl
theorem iw_5_30 : Cond.selects "GoldPlate" ⟨"GoldPlate", "years", "(I)I"⟩ ⟨"GoldPlate", "years", "(I)I"⟩ ∈ gp_ws := gp_in5 (i := 30) rfl rfl
theorem iw_5_31 : Cond.code ⟨"GoldPlate", "years", "(I)I"⟩ prog_1_method_29_code 2 (some .int) ∈ gp_ws := gp_in5 (i := 31) rfl rfl
theorem iw_5_32 : Cond.methodLink "GoldPlate" 290 ⟨"GoldPlate$Sky", "countYears", "()V"⟩ ∈ gp_ws := gp_in5 (i := 32) rfl rfl
theorem iw_5_33 : Cond.instanceMethod ⟨"GoldPlate$Sky", "countYears", "()V"⟩ ∈ gp_ws := gp_in5 (i := 33) rfl rfl
theorem iw_5_34 : Cond.selects "GoldPlate$Sky" ⟨"GoldPlate$Sky", "countYears", "()V"⟩ ⟨"GoldPlate$Sky", "countYears", "()V"⟩ ∈ gp_ws := gp_in5 (i := 34) rfl rfl
theorem iw_5_35 : Cond.code ⟨"GoldPlate$Sky", "countYears", "()V"⟩ prog_9_method_4_code 3 none ∈ gp_ws := gp_in5 (i := 35) rfl rfl
theorem iw_5_36 : Cond.methodLink "GoldPlate$Sky" 46 ⟨"GoldPlate$Sky", "anyFound", "()Z"⟩ ∈ gp_ws := gp_in5 (i := 36) rfl rfl
theorem iw_5_38 : Cond.instanceMethod ⟨"GoldPlate$Sky", "anyFound", "()Z"⟩ ∈ gp_ws := gp_in5 (i := 38) rfl rfl
theorem iw_5_39 : Cond.code ⟨"GoldPlate$Sky", "anyFound", "()Z"⟩ prog_9_method_5_code 2 (some .boolean) ∈ gp_ws := gp_in5 (i := 39) rfl rfl
theorem iw_5_40 : Cond.methodLink "GoldPlate$Sky" 50 ⟨"GoldPlate$Sky", "fitsAll", "(I)Z"⟩ ∈ gp_ws := gp_in5 (i := 40) rfl rfl
theorem iw_5_42 : Cond.instanceMethod ⟨"GoldPlate$Sky", "fitsAll", "(I)Z"⟩ ∈ gp_ws := gp_in5 (i := 42) rfl rfl
theorem iw_5_43 : Cond.code ⟨"GoldPlate$Sky", "fitsAll", "(I)Z"⟩ prog_9_method_6_code 3 (some .boolean) ∈ gp_ws := gp_in5 (i := 43) rfl rfl
theorem iw_5_44 : Cond.methodLink "GoldPlate$Sky" 54 ⟨"GoldPlate$Sky", "fits", "(II)Z"⟩ ∈ gp_ws := gp_in5 (i := 44) rfl rfl
theorem iw_5_46 : Cond.instanceMethod ⟨"GoldPlate$Sky", "fits", "(II)Z"⟩ ∈ gp_ws := gp_in5 (i := 46) rfl rfl
theorem iw_5_47 : Cond.code ⟨"GoldPlate$Sky", "fits", "(II)Z"⟩ prog_9_method_7_code 7 (some .boolean) ∈ gp_ws := gp_in5 (i := 47) rfl rfl
theorem iw_5_48 : Cond.constantLong "GoldPlate$Sky" 58 (1000000) ∈ gp_ws := gp_in5 (i := 48) rfl rfl
theorem iw_5_49 : Cond.methodLink "GoldPlateLaw" 105 ⟨"GoldPlate", "places", "(II)I"⟩ ∈ gp_ws := gp_in5 (i := 49) rfl rfl
theorem iw_5_50 : Cond.instanceMethod ⟨"GoldPlate", "places", "(II)I"⟩ ∈ gp_ws := gp_in5 (i := 50) rfl rfl
theorem iw_5_51 : Cond.selects "GoldPlate" ⟨"GoldPlate", "places", "(II)I"⟩ ⟨"GoldPlate", "places", "(II)I"⟩ ∈ gp_ws := gp_in5 (i := 51) rfl rfl
theorem iw_5_52 : Cond.code ⟨"GoldPlate", "places", "(II)I"⟩ prog_1_method_30_code 3 (some .int) ∈ gp_ws := gp_in5 (i := 52) rfl rfl
theorem iw_5_53 : Cond.methodLink "GoldPlate" 302 ⟨"GoldPlate$Sky", "countPlaces", "(I)V"⟩ ∈ gp_ws := gp_in5 (i := 53) rfl rfl
theorem iw_5_54 : Cond.instanceMethod ⟨"GoldPlate$Sky", "countPlaces", "(I)V"⟩ ∈ gp_ws := gp_in5 (i := 54) rfl rfl
theorem iw_5_55 : Cond.selects "GoldPlate$Sky" ⟨"GoldPlate$Sky", "countPlaces", "(I)V"⟩ ⟨"GoldPlate$Sky", "countPlaces", "(I)V"⟩ ∈ gp_ws := gp_in5 (i := 55) rfl rfl
theorem iw_5_56 : Cond.code ⟨"GoldPlate$Sky", "countPlaces", "(I)V"⟩ prog_9_method_8_code 3 none ∈ gp_ws := gp_in5 (i := 56) rfl rfl
theorem iw_5_57 : Cond.methodLink "GoldPlate$Sky" 66 ⟨"GoldPlate$Sky", "isPlace", "(III)Z"⟩ ∈ gp_ws := gp_in5 (i := 57) rfl rfl
theorem iw_5_59 : Cond.instanceMethod ⟨"GoldPlate$Sky", "isPlace", "(III)Z"⟩ ∈ gp_ws := gp_in5 (i := 59) rfl rfl
theorem iw_5_60 : Cond.code ⟨"GoldPlate$Sky", "isPlace", "(III)Z"⟩ prog_9_method_9_code 8 (some .boolean) ∈ gp_ws := gp_in5 (i := 60) rfl rfl
theorem iw_5_61 : Cond.methodLink "GoldPlate$Sky" 70 ⟨"GoldPlate$Sky", "isAbout", "(III)Z"⟩ ∈ gp_ws := gp_in5 (i := 61) rfl rfl
theorem iw_5_62 : Cond.static ⟨"GoldPlate$Sky", "isAbout", "(III)Z"⟩ ∈ gp_ws := gp_in5 (i := 62) rfl rfl
theorem iw_5_63 : Cond.code ⟨"GoldPlate$Sky", "isAbout", "(III)Z"⟩ prog_9_method_10_code 5 (some .boolean) ∈ gp_ws := gp_in5 (i := 63) rfl rfl
theorem iw_5_64 : Cond.methodLink "GoldPlate$Sky" 73 ⟨"java/lang/Math", "max", "(II)I"⟩ ∈ gp_ws := gp_in5 (i := 64) rfl rfl
theorem iw_5_65 : Cond.methodLink "GoldPlateLaw" 109 ⟨"GoldPlate", "told", "(II)I"⟩ ∈ gp_ws := gp_in5 (i := 65) rfl rfl
theorem iw_5_66 : Cond.instanceMethod ⟨"GoldPlate", "told", "(II)I"⟩ ∈ gp_ws := gp_in5 (i := 66) rfl rfl
theorem iw_5_67 : Cond.selects "GoldPlate" ⟨"GoldPlate", "told", "(II)I"⟩ ⟨"GoldPlate", "told", "(II)I"⟩ ∈ gp_ws := gp_in5 (i := 67) rfl rfl
theorem iw_5_68 : Cond.code ⟨"GoldPlate", "told", "(II)I"⟩ prog_1_method_31_code 3 (some .int) ∈ gp_ws := gp_in5 (i := 68) rfl rfl
theorem iw_5_69 : Cond.constant "GoldPlate" 311 (65535) ∈ gp_ws := gp_in5 (i := 69) rfl rfl
theorem iw_5_70 : Cond.methodLink "GoldPlate" 312 ⟨"GoldPlate$Plate", "thingsOf", "(I)I"⟩ ∈ gp_ws := gp_in5 (i := 70) rfl rfl
theorem iw_5_71 : Cond.instanceMethod ⟨"GoldPlate$Plate", "thingsOf", "(I)I"⟩ ∈ gp_ws := gp_in5 (i := 71) rfl rfl
theorem iw_5_72 : Cond.selects "GoldPlate$Plate" ⟨"GoldPlate$Plate", "thingsOf", "(I)I"⟩ ⟨"GoldPlate$Plate", "thingsOf", "(I)I"⟩ ∈ gp_ws := gp_in5 (i := 72) rfl rfl
theorem iw_5_73 : Cond.code ⟨"GoldPlate$Plate", "thingsOf", "(I)I"⟩ prog_7_method_11_code 4 (some .int) ∈ gp_ws := gp_in5 (i := 73) rfl rfl
theorem iw_5_74 : Cond.methodLink "GoldPlateLaw" 113 ⟨"GoldPlate", "best", "(III)I"⟩ ∈ gp_ws := gp_in5 (i := 74) rfl rfl
theorem iw_5_75 : Cond.instanceMethod ⟨"GoldPlate", "best", "(III)I"⟩ ∈ gp_ws := gp_in5 (i := 75) rfl rfl
theorem iw_5_76 : Cond.selects "GoldPlate" ⟨"GoldPlate", "best", "(III)I"⟩ ⟨"GoldPlate", "best", "(III)I"⟩ ∈ gp_ws := gp_in5 (i := 76) rfl rfl
theorem iw_5_77 : Cond.code ⟨"GoldPlate", "best", "(III)I"⟩ prog_1_method_32_code 4 (some .int) ∈ gp_ws := gp_in5 (i := 77) rfl rfl
theorem iw_5_78 : Cond.methodLink "GoldPlate" 315 ⟨"GoldPlate$Chooser", "findBest", "(IIZ)V"⟩ ∈ gp_ws := gp_in5 (i := 78) rfl rfl
theorem iw_5_79 : Cond.instanceMethod ⟨"GoldPlate$Chooser", "findBest", "(IIZ)V"⟩ ∈ gp_ws := gp_in5 (i := 79) rfl rfl
theorem iw_5_80 : Cond.selects "GoldPlate$Chooser" ⟨"GoldPlate$Chooser", "findBest", "(IIZ)V"⟩ ⟨"GoldPlate$Chooser", "findBest", "(IIZ)V"⟩ ∈ gp_ws := gp_in5 (i := 80) rfl rfl
theorem iw_5_81 : Cond.code ⟨"GoldPlate$Chooser", "findBest", "(IIZ)V"⟩ prog_3_method_2_code 5 none ∈ gp_ws := gp_in5 (i := 81) rfl rfl
theorem iw_5_82 : Cond.methodLink "GoldPlate$Chooser" 35 ⟨"java/lang/Math", "min", "(II)I"⟩ ∈ gp_ws := gp_in5 (i := 82) rfl rfl
theorem iw_5_83 : Cond.methodLink "GoldPlate$Chooser" 61 ⟨"GoldPlate$Chooser", "ableMarks", "(LGoldPlate$Mind;)I"⟩ ∈ gp_ws := gp_in5 (i := 83) rfl rfl
theorem iw_5_85 : Cond.instanceMethod ⟨"GoldPlate$Chooser", "ableMarks", "(LGoldPlate$Mind;)I"⟩ ∈ gp_ws := gp_in5 (i := 85) rfl rfl
theorem iw_5_86 : Cond.code ⟨"GoldPlate$Chooser", "ableMarks", "(LGoldPlate$Mind;)I"⟩ prog_3_method_3_code 4 (some .int) ∈ gp_ws := gp_in5 (i := 86) rfl rfl
theorem iw_5_87 : Cond.methodLink "GoldPlate$Chooser" 72 ⟨"GoldPlate$Plate", "isAble", "(LGoldPlate$Mind;III)Z"⟩ ∈ gp_ws := gp_in5 (i := 87) rfl rfl
theorem iw_5_88 : Cond.methodLink "GoldPlate$Chooser" 65 ⟨"GoldPlate$Chooser", "grow", "(IIII)V"⟩ ∈ gp_ws := gp_in5 (i := 88) rfl rfl
theorem iw_5_90 : Cond.instanceMethod ⟨"GoldPlate$Chooser", "grow", "(IIII)V"⟩ ∈ gp_ws := gp_in5 (i := 90) rfl rfl
theorem iw_5_91 : Cond.code ⟨"GoldPlate$Chooser", "grow", "(IIII)V"⟩ prog_3_method_4_code 7 none ∈ gp_ws := gp_in5 (i := 91) rfl rfl
theorem iw_5_92 : Cond.methodLink "GoldPlate$Chooser" 76 ⟨"GoldPlate$Chooser", "judge", "(III)V"⟩ ∈ gp_ws := gp_in5 (i := 92) rfl rfl
theorem iw_5_94 : Cond.instanceMethod ⟨"GoldPlate$Chooser", "judge", "(III)V"⟩ ∈ gp_ws := gp_in5 (i := 94) rfl rfl
theorem iw_5_95 : Cond.code ⟨"GoldPlate$Chooser", "judge", "(III)V"⟩ prog_3_method_6_code 6 none ∈ gp_ws := gp_in5 (i := 95) rfl rfl
theorem iw_5_96 : Cond.methodLink "GoldPlate$Chooser" 99 ⟨"GoldPlate$Chooser", "scoreOf", "(I)I"⟩ ∈ gp_ws := gp_in5 (i := 96) rfl rfl
theorem iw_5_98 : Cond.instanceMethod ⟨"GoldPlate$Chooser", "scoreOf", "(I)I"⟩ ∈ gp_ws := gp_in5 (i := 98) rfl rfl
theorem iw_5_99 : Cond.code ⟨"GoldPlate$Chooser", "scoreOf", "(I)I"⟩ prog_3_method_7_code 6 (some .int) ∈ gp_ws := gp_in5 (i := 99) rfl rfl
theorem iw_5_100 : Cond.methodLink "GoldPlate$Chooser" 103 ⟨"java/lang/Integer", "bitCount", "(I)I"⟩ ∈ gp_ws := gp_in5 (i := 100) rfl rfl
theorem iw_5_101 : Cond.static ⟨"java/lang/Integer", "bitCount", "(I)I"⟩ ∈ gp_ws := gp_in5 (i := 101) rfl rfl
theorem iw_5_102 : Cond.code ⟨"java/lang/Integer", "bitCount", "(I)I"⟩ prog_16_method_49_code 1 (some .int) ∈ gp_ws := gp_in5 (i := 102) rfl rfl
theorem iw_5_103 : Cond.constant "java/lang/Integer" 265 (1431655765) ∈ gp_ws := gp_in5 (i := 103) rfl rfl
theorem iw_5_104 : Cond.constant "java/lang/Integer" 266 (858993459) ∈ gp_ws := gp_in5 (i := 104) rfl rfl
theorem iw_5_105 : Cond.constant "java/lang/Integer" 267 (252645135) ∈ gp_ws := gp_in5 (i := 105) rfl rfl
theorem iw_5_106 : Cond.methodLink "GoldPlate$Chooser" 89 ⟨"GoldPlate$Chooser", "gains", "(II)Z"⟩ ∈ gp_ws := gp_in5 (i := 106) rfl rfl
theorem iw_5_108 : Cond.instanceMethod ⟨"GoldPlate$Chooser", "gains", "(II)Z"⟩ ∈ gp_ws := gp_in5 (i := 108) rfl rfl
theorem iw_5_109 : Cond.code ⟨"GoldPlate$Chooser", "gains", "(II)Z"⟩ prog_3_method_5_code 9 (some .boolean) ∈ gp_ws := gp_in5 (i := 109) rfl rfl
theorem iw_5_110 : Cond.methodLink "GoldPlateLaw" 117 ⟨"GoldPlate", "never", "(I)I"⟩ ∈ gp_ws := gp_in5 (i := 110) rfl rfl
theorem iw_5_111 : Cond.instanceMethod ⟨"GoldPlate", "never", "(I)I"⟩ ∈ gp_ws := gp_in5 (i := 111) rfl rfl
theorem iw_5_112 : Cond.selects "GoldPlate" ⟨"GoldPlate", "never", "(I)I"⟩ ⟨"GoldPlate", "never", "(I)I"⟩ ∈ gp_ws := gp_in5 (i := 112) rfl rfl
theorem iw_5_113 : Cond.code ⟨"GoldPlate", "never", "(I)I"⟩ prog_1_method_33_code 3 (some .int) ∈ gp_ws := gp_in5 (i := 113) rfl rfl
theorem iw_5_114 : Cond.methodLink "GoldPlateLaw" 121 ⟨"GoldPlate", "deeper", "(II)I"⟩ ∈ gp_ws := gp_in5 (i := 114) rfl rfl
theorem iw_5_115 : Cond.instanceMethod ⟨"GoldPlate", "deeper", "(II)I"⟩ ∈ gp_ws := gp_in5 (i := 115) rfl rfl
theorem iw_5_116 : Cond.selects "GoldPlate" ⟨"GoldPlate", "deeper", "(II)I"⟩ ⟨"GoldPlate", "deeper", "(II)I"⟩ ∈ gp_ws := gp_in5 (i := 116) rfl rfl
theorem iw_5_117 : Cond.code ⟨"GoldPlate", "deeper", "(II)I"⟩ prog_1_method_34_code 7 (some .int) ∈ gp_ws := gp_in5 (i := 117) rfl rfl
theorem iw_5_118 : Cond.methodLink "GoldPlate" 325 ⟨"GoldPlate", "countTold", "(III)I"⟩ ∈ gp_ws := gp_in5 (i := 118) rfl rfl
theorem iw_5_120 : Cond.instanceMethod ⟨"GoldPlate", "countTold", "(III)I"⟩ ∈ gp_ws := gp_in5 (i := 120) rfl rfl
theorem iw_5_121 : Cond.code ⟨"GoldPlate", "countTold", "(III)I"⟩ prog_1_method_35_code 4 (some .int) ∈ gp_ws := gp_in5 (i := 121) rfl rfl
theorem iw_5_122 : Cond.methodLink "GoldPlate" 329 ⟨"java/lang/Integer", "bitCount", "(I)I"⟩ ∈ gp_ws := gp_in5 (i := 122) rfl rfl
theorem iw_5_123 : Cond.methodLink "GoldPlateLaw" 125 ⟨"GoldPlate", "trial", "(I)I"⟩ ∈ gp_ws := gp_in5 (i := 123) rfl rfl
theorem iw_5_124 : Cond.instanceMethod ⟨"GoldPlate", "trial", "(I)I"⟩ ∈ gp_ws := gp_in5 (i := 124) rfl rfl
theorem iw_5_125 : Cond.selects "GoldPlate" ⟨"GoldPlate", "trial", "(I)I"⟩ ⟨"GoldPlate", "trial", "(I)I"⟩ ∈ gp_ws := gp_in5 (i := 125) rfl rfl
theorem iw_5_126 : Cond.code ⟨"GoldPlate", "trial", "(I)I"⟩ prog_1_method_36_code 3 (some .int) ∈ gp_ws := gp_in5 (i := 126) rfl rfl
theorem iw_5_127 : Cond.methodLink "GoldPlate" 334 ⟨"GoldPlate", "othersAreThere", "(I)Z"⟩ ∈ gp_ws := gp_in5 (i := 127) rfl rfl
theorem iw_5_129 : Cond.instanceMethod ⟨"GoldPlate", "othersAreThere", "(I)Z"⟩ ∈ gp_ws := gp_in5 (i := 129) rfl rfl
theorem iw_5_130 : Cond.code ⟨"GoldPlate", "othersAreThere", "(I)Z"⟩ prog_1_method_37_code 5 (some .boolean) ∈ gp_ws := gp_in5 (i := 130) rfl rfl
theorem iw_5_131 : Cond.methodLink "GoldPlate" 340 ⟨"GoldPlate", "takingAt", "(II)I"⟩ ∈ gp_ws := gp_in5 (i := 131) rfl rfl
theorem iw_5_132 : Cond.static ⟨"GoldPlate", "takingAt", "(II)I"⟩ ∈ gp_ws := gp_in5 (i := 132) rfl rfl
theorem iw_5_133 : Cond.code ⟨"GoldPlate", "takingAt", "(II)I"⟩ prog_1_method_45_code 2 (some .int) ∈ gp_ws := gp_in5 (i := 133) rfl rfl
theorem iw_5_134 : Cond.methodLink "GoldPlate" 343 ⟨"GoldPlate$Mark", "takenFor", "(I)I"⟩ ∈ gp_ws := gp_in5 (i := 134) rfl rfl
theorem iw_5_135 : Cond.methodLink "GoldPlate" 337 ⟨"GoldPlate$Trials", "add", "(JII)I"⟩ ∈ gp_ws := gp_in5 (i := 135) rfl rfl
theorem iw_5_136 : Cond.instanceMethod ⟨"GoldPlate$Trials", "add", "(JII)I"⟩ ∈ gp_ws := gp_in5 (i := 136) rfl rfl
theorem iw_5_137 : Cond.selects "GoldPlate$Trials" ⟨"GoldPlate$Trials", "add", "(JII)I"⟩ ⟨"GoldPlate$Trials", "add", "(JII)I"⟩ ∈ gp_ws := gp_in5 (i := 137) rfl rfl
theorem iw_5_138 : Cond.code ⟨"GoldPlate$Trials", "add", "(JII)I"⟩ prog_11_method_2_code 5 (some .int) ∈ gp_ws := gp_in5 (i := 138) rfl rfl
theorem iw_5_139 : Cond.methodLink "GoldPlateLaw" 129 ⟨"GoldPlate", "agrees", "(I)I"⟩ ∈ gp_ws := gp_in5 (i := 139) rfl rfl
theorem iw_5_140 : Cond.instanceMethod ⟨"GoldPlate", "agrees", "(I)I"⟩ ∈ gp_ws := gp_in5 (i := 140) rfl rfl
theorem iw_5_141 : Cond.selects "GoldPlate" ⟨"GoldPlate", "agrees", "(I)I"⟩ ⟨"GoldPlate", "agrees", "(I)I"⟩ ∈ gp_ws := gp_in5 (i := 141) rfl rfl
theorem iw_5_142 : Cond.code ⟨"GoldPlate", "agrees", "(I)I"⟩ prog_1_method_38_code 4 (some .int) ∈ gp_ws := gp_in5 (i := 142) rfl rfl
theorem iw_5_143 : Cond.methodLink "GoldPlate" 354 ⟨"GoldPlate$Search", "cheapestPacked", "()I"⟩ ∈ gp_ws := gp_in5 (i := 143) rfl rfl
theorem iw_5_144 : Cond.instanceMethod ⟨"GoldPlate$Search", "cheapestPacked", "()I"⟩ ∈ gp_ws := gp_in5 (i := 144) rfl rfl
theorem iw_5_145 : Cond.selects "GoldPlate$Search" ⟨"GoldPlate$Search", "cheapestPacked", "()I"⟩ ⟨"GoldPlate$Search", "cheapestPacked", "()I"⟩ ∈ gp_ws := gp_in5 (i := 145) rfl rfl
theorem iw_5_146 : Cond.code ⟨"GoldPlate$Search", "cheapestPacked", "()I"⟩ prog_8_method_11_code 3 (some .int) ∈ gp_ws := gp_in5 (i := 146) rfl rfl
theorem iw_5_147 : Cond.methodLink "GoldPlateLaw" 133 ⟨"GoldPlate", "ours", "(I)I"⟩ ∈ gp_ws := gp_in5 (i := 147) rfl rfl
theorem iw_5_148 : Cond.instanceMethod ⟨"GoldPlate", "ours", "(I)I"⟩ ∈ gp_ws := gp_in5 (i := 148) rfl rfl
theorem iw_5_149 : Cond.selects "GoldPlate" ⟨"GoldPlate", "ours", "(I)I"⟩ ⟨"GoldPlate", "ours", "(I)I"⟩ ∈ gp_ws := gp_in5 (i := 149) rfl rfl
theorem iw_5_150 : Cond.code ⟨"GoldPlate", "ours", "(I)I"⟩ prog_1_method_39_code 4 (some .int) ∈ gp_ws := gp_in5 (i := 150) rfl rfl
theorem iw_5_151 : Cond.methodLink "GoldPlate" 360 ⟨"GoldPlate$Trials", "rightPlaces", "(JI)I"⟩ ∈ gp_ws := gp_in5 (i := 151) rfl rfl
theorem iw_5_152 : Cond.instanceMethod ⟨"GoldPlate$Trials", "rightPlaces", "(JI)I"⟩ ∈ gp_ws := gp_in5 (i := 152) rfl rfl
theorem iw_5_153 : Cond.selects "GoldPlate$Trials" ⟨"GoldPlate$Trials", "rightPlaces", "(JI)I"⟩ ⟨"GoldPlate$Trials", "rightPlaces", "(JI)I"⟩ ∈ gp_ws := gp_in5 (i := 153) rfl rfl
theorem iw_5_154 : Cond.code ⟨"GoldPlate$Trials", "rightPlaces", "(JI)I"⟩ prog_11_method_3_code 7 (some .int) ∈ gp_ws := gp_in5 (i := 154) rfl rfl
theorem iw_5_156 : Cond.static ⟨"GoldPlate", "placesTakenRight", "(II)I"⟩ ∈ gp_ws := gp_in5 (i := 156) rfl rfl
theorem iw_5_157 : Cond.code ⟨"GoldPlate", "placesTakenRight", "(II)I"⟩ prog_1_method_46_code 4 (some .int) ∈ gp_ws := gp_in5 (i := 157) rfl rfl
theorem iw_5_158 : Cond.methodLink "GoldPlate" 363 ⟨"GoldPlate", "placesTakenRight", "(II)I"⟩ ∈ gp_ws := gp_in5 (i := 158) rfl rfl
theorem iw_5_159 : Cond.methodLink "GoldPlate" 366 ⟨"GoldPlate", "marksAtPlaces", "(I)I"⟩ ∈ gp_ws := gp_in5 (i := 159) rfl rfl
theorem iw_5_161 : Cond.instanceMethod ⟨"GoldPlate", "marksAtPlaces", "(I)I"⟩ ∈ gp_ws := gp_in5 (i := 161) rfl rfl
theorem iw_5_162 : Cond.code ⟨"GoldPlate", "marksAtPlaces", "(I)I"⟩ prog_1_method_40_code 4 (some .int) ∈ gp_ws := gp_in5 (i := 162) rfl rfl
theorem iw_5_163 : Cond.methodLink "GoldPlateLaw" 137 ⟨"GoldPlate", "look", "(I)I"⟩ ∈ gp_ws := gp_in5 (i := 163) rfl rfl
theorem iw_5_164 : Cond.instanceMethod ⟨"GoldPlate", "look", "(I)I"⟩ ∈ gp_ws := gp_in5 (i := 164) rfl rfl
theorem iw_5_165 : Cond.selects "GoldPlate" ⟨"GoldPlate", "look", "(I)I"⟩ ⟨"GoldPlate", "look", "(I)I"⟩ ∈ gp_ws := gp_in5 (i := 165) rfl rfl
theorem iw_5_166 : Cond.code ⟨"GoldPlate", "look", "(I)I"⟩ prog_1_method_41_code 2 (some .int) ∈ gp_ws := gp_in5 (i := 166) rfl rfl
theorem iw_5_167 : Cond.classLink "GoldPlateLaw" 10 "GoldPlateModel" ∈ gp_ws := gp_in5 (i := 167) rfl rfl
theorem iw_5_168 : Cond.instantiable "GoldPlateModel" 70 ∈ gp_ws := gp_in5 (i := 168) rfl rfl
theorem iw_5_169 : Cond.methodLink "GoldPlateLaw" 12 ⟨"GoldPlateModel", "<init>", "()V"⟩ ∈ gp_ws := gp_in5 (i := 169) rfl rfl
theorem iw_5_170 : Cond.instanceMethod ⟨"GoldPlateModel", "<init>", "()V"⟩ ∈ gp_ws := gp_in5 (i := 170) rfl rfl
theorem iw_5_171 : Cond.code ⟨"GoldPlateModel", "<init>", "()V"⟩ prog_14_method_1_code 1 none ∈ gp_ws := gp_in5 (i := 171) rfl rfl
theorem iw_5_172 : Cond.methodLink "GoldPlateModel" 1 ⟨"java/lang/Object", "<init>", "()V"⟩ ∈ gp_ws := gp_in5 (i := 172) rfl rfl
theorem iw_5_173 : Cond.fieldLink "GoldPlateModel" 153 "GoldPlateModel" "marks" "I" ∈ gp_ws := gp_in5 (i := 173) rfl rfl
theorem iw_5_174 : Cond.fieldLink "GoldPlateModel" 164 "GoldPlateModel" "year" "I" ∈ gp_ws := gp_in5 (i := 174) rfl rfl
theorem iw_5_175 : Cond.fieldLink "GoldPlateModel" 182 "GoldPlateModel" "messageLong" "I" ∈ gp_ws := gp_in5 (i := 175) rfl rfl
theorem iw_5_176 : Cond.fieldLink "GoldPlateModel" 7 "GoldPlateModel" "kindOf" "[I" ∈ gp_ws := gp_in5 (i := 176) rfl rfl
theorem iw_5_177 : Cond.fieldLink "GoldPlateModel" 13 "GoldPlateModel" "thingOf" "[I" ∈ gp_ws := gp_in5 (i := 177) rfl rfl
theorem iw_5_178 : Cond.fieldLink "GoldPlateModel" 16 "GoldPlateModel" "costOf" "[I" ∈ gp_ws := gp_in5 (i := 178) rfl rfl
theorem iw_5_179 : Cond.fieldLink "GoldPlateModel" 19 "GoldPlateModel" "depthOf" "[I" ∈ gp_ws := gp_in5 (i := 179) rfl rfl
theorem iw_5_180 : Cond.fieldLink "GoldPlateModel" 22 "GoldPlateModel" "sensesOf" "[I" ∈ gp_ws := gp_in5 (i := 180) rfl rfl
theorem iw_5_181 : Cond.fieldLink "GoldPlateModel" 25 "GoldPlateModel" "needsOf" "[I" ∈ gp_ws := gp_in5 (i := 181) rfl rfl
theorem iw_5_182 : Cond.fieldLink "GoldPlateModel" 28 "GoldPlateModel" "knowsOf" "[I" ∈ gp_ws := gp_in5 (i := 182) rfl rfl
theorem iw_5_183 : Cond.fieldLink "GoldPlateModel" 31 "GoldPlateModel" "other" "[I" ∈ gp_ws := gp_in5 (i := 183) rfl rfl
theorem iw_5_184 : Cond.fieldLink "GoldPlateModel" 34 "GoldPlateModel" "hard" "[I" ∈ gp_ws := gp_in5 (i := 184) rfl rfl
theorem iw_5_185 : Cond.fieldLink "GoldPlateModel" 37 "GoldPlateModel" "message" "[I" ∈ gp_ws := gp_in5 (i := 185) rfl rfl
theorem iw_5_186 : Cond.fieldLink "GoldPlateModel" 40 "GoldPlateModel" "deeper" "I" ∈ gp_ws := gp_in5 (i := 186) rfl rfl
theorem iw_5_187 : Cond.fieldLink "GoldPlateModel" 44 "GoldPlateModel" "chains" "[I" ∈ gp_ws := gp_in5 (i := 187) rfl rfl
theorem iw_5_188 : Cond.fieldLink "GoldPlateModel" 47 "GoldPlateModel" "sensesHad" "[I" ∈ gp_ws := gp_in5 (i := 188) rfl rfl
theorem iw_5_189 : Cond.fieldLink "GoldPlateModel" 50 "GoldPlateModel" "factsHad" "[I" ∈ gp_ws := gp_in5 (i := 189) rfl rfl
theorem iw_5_190 : Cond.fieldLink "GoldPlateModel" 53 "GoldPlateModel" "hand" "[I" ∈ gp_ws := gp_in5 (i := 190) rfl rfl
theorem iw_5_191 : Cond.fieldLink "GoldPlateModel" 56 "GoldPlateModel" "priceMany" "[I" ∈ gp_ws := gp_in5 (i := 191) rfl rfl
theorem iw_5_192 : Cond.fieldLink "GoldPlateModel" 59 "GoldPlateModel" "lineMany" "[I" ∈ gp_ws := gp_in5 (i := 192) rfl rfl
theorem iw_5_193 : Cond.fieldLink "GoldPlateModel" 62 "GoldPlateModel" "tryFrom" "[I" ∈ gp_ws := gp_in5 (i := 193) rfl rfl
theorem iw_5_194 : Cond.fieldLink "GoldPlateModel" 65 "GoldPlateModel" "tryTo" "[I" ∈ gp_ws := gp_in5 (i := 194) rfl rfl
theorem iw_5_195 : Cond.fieldLink "GoldPlateModel" 68 "GoldPlateModel" "priceFrom" "[I" ∈ gp_ws := gp_in5 (i := 195) rfl rfl
theorem iw_5_196 : Cond.fieldLink "GoldPlateModel" 71 "GoldPlateModel" "priceTo" "[I" ∈ gp_ws := gp_in5 (i := 196) rfl rfl
theorem iw_5_197 : Cond.fieldLink "GoldPlateModel" 74 "GoldPlateModel" "whenTo" "[I" ∈ gp_ws := gp_in5 (i := 197) rfl rfl
theorem iw_5_198 : Cond.fieldLink "GoldPlateModel" 77 "GoldPlateModel" "step" "[I" ∈ gp_ws := gp_in5 (i := 198) rfl rfl
theorem iw_5_199 : Cond.fieldLink "GoldPlateModel" 80 "GoldPlateModel" "tape" "[I" ∈ gp_ws := gp_in5 (i := 199) rfl rfl
theorem iw_5_200 : Cond.fieldLink "GoldPlateModel" 83 "GoldPlateModel" "pile" "[I" ∈ gp_ws := gp_in5 (i := 200) rfl rfl
theorem iw_5_201 : Cond.fieldLink "GoldPlateModel" 86 "GoldPlateModel" "facts" "[I" ∈ gp_ws := gp_in5 (i := 201) rfl rfl
theorem iw_5_202 : Cond.fieldLink "GoldPlateModel" 89 "GoldPlateModel" "hasTwin" "[Z" ∈ gp_ws := gp_in5 (i := 202) rfl rfl
theorem iw_5_203 : Cond.fieldLink "GoldPlateModel" 93 "GoldPlateModel" "hasTry" "[Z" ∈ gp_ws := gp_in5 (i := 203) rfl rfl
theorem iw_5_204 : Cond.fieldLink "GoldPlateModel" 283 "GoldPlateModel" "steps" "I" ∈ gp_ws := gp_in5 (i := 204) rfl rfl
theorem iw_5_205 : Cond.fieldLink "GoldPlateModel" 185 "GoldPlateModel" "taped" "I" ∈ gp_ws := gp_in5 (i := 205) rfl rfl
theorem iw_5_206 : Cond.fieldLink "GoldPlateModel" 188 "GoldPlateModel" "at" "I" ∈ gp_ws := gp_in5 (i := 206) rfl rfl
theorem iw_5_207 : Cond.fieldLink "GoldPlateModel" 256 "GoldPlateModel" "token" "I" ∈ gp_ws := gp_in5 (i := 207) rfl rfl
theorem iw_5_208 : Cond.fieldLink "GoldPlateModel" 191 "GoldPlateModel" "tokenAt" "I" ∈ gp_ws := gp_in5 (i := 208) rfl rfl
theorem iw_5_209 : Cond.fieldLink "GoldPlateModel" 268 "GoldPlateModel" "value" "I" ∈ gp_ws := gp_in5 (i := 209) rfl rfl
theorem iw_5_210 : Cond.fieldLink "GoldPlateModel" 271 "GoldPlateModel" "wrong" "I" ∈ gp_ws := gp_in5 (i := 210) rfl rfl
theorem iw_5_211 : Cond.fieldLink "GoldPlateModel" 274 "GoldPlateModel" "wrongAt" "I" ∈ gp_ws := gp_in5 (i := 211) rfl rfl
theorem iw_5_212 : Cond.fieldLink "GoldPlateModel" 327 "GoldPlateModel" "faultKind" "I" ∈ gp_ws := gp_in5 (i := 212) rfl rfl
theorem iw_5_213 : Cond.fieldLink "GoldPlateModel" 286 "GoldPlateModel" "depth" "I" ∈ gp_ws := gp_in5 (i := 213) rfl rfl
theorem iw_5_214 : Cond.fieldLink "GoldPlateModel" 96 "GoldPlateModel" "faultPlace" "I" ∈ gp_ws := gp_in5 (i := 214) rfl rfl
theorem iw_5_215 : Cond.fieldLink "GoldPlateModel" 99 "GoldPlateModel" "priceOf" "[I" ∈ gp_ws := gp_in5 (i := 215) rfl rfl
theorem iw_5_216 : Cond.fieldLink "GoldPlateModel" 102 "GoldPlateModel" "taking" "[I" ∈ gp_ws := gp_in5 (i := 216) rfl rfl
theorem iw_5_217 : Cond.fieldLink "GoldPlateModel" 105 "GoldPlateModel" "cheapest" "[I" ∈ gp_ws := gp_in5 (i := 217) rfl rfl
theorem iw_5_218 : Cond.fieldLink "GoldPlateModel" 343 "GoldPlateModel" "reader" "I" ∈ gp_ws := gp_in5 (i := 218) rfl rfl
theorem iw_5_219 : Cond.fieldLink "GoldPlateModel" 355 "GoldPlateModel" "bound" "I" ∈ gp_ws := gp_in5 (i := 219) rfl rfl
theorem iw_5_220 : Cond.fieldLink "GoldPlateModel" 358 "GoldPlateModel" "found" "I" ∈ gp_ws := gp_in5 (i := 220) rfl rfl
theorem iw_5_221 : Cond.fieldLink "GoldPlateModel" 361 "GoldPlateModel" "leastPrice" "I" ∈ gp_ws := gp_in5 (i := 221) rfl rfl
theorem iw_5_222 : Cond.fieldLink "GoldPlateModel" 387 "GoldPlateModel" "bitMany" "I" ∈ gp_ws := gp_in5 (i := 222) rfl rfl
theorem iw_5_223 : Cond.fieldLink "GoldPlateModel" 390 "GoldPlateModel" "gridMany" "I" ∈ gp_ws := gp_in5 (i := 223) rfl rfl
theorem iw_5_224 : Cond.fieldLink "GoldPlateModel" 108 "GoldPlateModel" "bit" "[I" ∈ gp_ws := gp_in5 (i := 224) rfl rfl
theorem iw_5_225 : Cond.fieldLink "GoldPlateModel" 111 "GoldPlateModel" "gridBit" "[I" ∈ gp_ws := gp_in5 (i := 225) rfl rfl
theorem iw_5_226 : Cond.fieldLink "GoldPlateModel" 114 "GoldPlateModel" "widths" "[I" ∈ gp_ws := gp_in5 (i := 226) rfl rfl
theorem iw_5_227 : Cond.fieldLink "GoldPlateModel" 117 "GoldPlateModel" "tryOf" "[I" ∈ gp_ws := gp_in5 (i := 227) rfl rfl
theorem iw_5_228 : Cond.fieldLink "GoldPlateModel" 402 "GoldPlateModel" "widthMany" "I" ∈ gp_ws := gp_in5 (i := 228) rfl rfl
theorem iw_5_229 : Cond.fieldLink "GoldPlateModel" 414 "GoldPlateModel" "beats" "I" ∈ gp_ws := gp_in5 (i := 229) rfl rfl
theorem iw_5_230 : Cond.fieldLink "GoldPlateModel" 120 "GoldPlateModel" "period" "[I" ∈ gp_ws := gp_in5 (i := 230) rfl rfl
theorem iw_5_231 : Cond.fieldLink "GoldPlateModel" 123 "GoldPlateModel" "slower" "[I" ∈ gp_ws := gp_in5 (i := 231) rfl rfl
theorem iw_5_232 : Cond.fieldLink "GoldPlateModel" 126 "GoldPlateModel" "beatX" "[I" ∈ gp_ws := gp_in5 (i := 232) rfl rfl
theorem iw_5_233 : Cond.fieldLink "GoldPlateModel" 129 "GoldPlateModel" "beatY" "[I" ∈ gp_ws := gp_in5 (i := 233) rfl rfl
theorem iw_5_234 : Cond.fieldLink "GoldPlateModel" 132 "GoldPlateModel" "foundFrom" "[I" ∈ gp_ws := gp_in5 (i := 234) rfl rfl
theorem iw_5_235 : Cond.fieldLink "GoldPlateModel" 135 "GoldPlateModel" "foundTo" "[I" ∈ gp_ws := gp_in5 (i := 235) rfl rfl
theorem iw_5_236 : Cond.fieldLink "GoldPlateModel" 138 "GoldPlateModel" "farOf" "[I" ∈ gp_ws := gp_in5 (i := 236) rfl rfl
theorem iw_5_237 : Cond.fieldLink "GoldPlateModel" 447 "GoldPlateModel" "trials" "I" ∈ gp_ws := gp_in5 (i := 237) rfl rfl
theorem iw_5_238 : Cond.fieldLink "GoldPlateModel" 141 "GoldPlateModel" "trialLong" "[I" ∈ gp_ws := gp_in5 (i := 238) rfl rfl
theorem iw_5_239 : Cond.fieldLink "GoldPlateModel" 144 "GoldPlateModel" "trialMark" "[I" ∈ gp_ws := gp_in5 (i := 239) rfl rfl
theorem iw_6_0 : Cond.fieldLink "GoldPlateModel" 147 "GoldPlateModel" "trialTaking" "[I" ∈ gp_ws := gp_in6 (i := 0) rfl rfl
theorem iw_6_1 : Cond.fieldLink "GoldPlateModel" 150 "GoldPlateModel" "kept" "[I" ∈ gp_ws := gp_in6 (i := 1) rfl rfl
theorem iw_6_2 : Cond.lays "GoldPlateModel" "GoldPlateModel" "marks" "I" ∈ gp_ws := gp_in6 (i := 2) rfl rfl
theorem iw_6_4 : Cond.lays "GoldPlateModel" "GoldPlateModel" "year" "I" ∈ gp_ws := gp_in6 (i := 4) rfl rfl
theorem iw_6_6 : Cond.lays "GoldPlateModel" "GoldPlateModel" "messageLong" "I" ∈ gp_ws := gp_in6 (i := 6) rfl rfl
theorem iw_6_8 : Cond.laysFinal "GoldPlateModel" "GoldPlateModel" "kindOf" "[I" ∈ gp_ws := gp_in6 (i := 8) rfl rfl
theorem iw_6_10 : Cond.laysFinal "GoldPlateModel" "GoldPlateModel" "thingOf" "[I" ∈ gp_ws := gp_in6 (i := 10) rfl rfl
theorem iw_6_12 : Cond.laysFinal "GoldPlateModel" "GoldPlateModel" "costOf" "[I" ∈ gp_ws := gp_in6 (i := 12) rfl rfl
theorem iw_6_14 : Cond.laysFinal "GoldPlateModel" "GoldPlateModel" "depthOf" "[I" ∈ gp_ws := gp_in6 (i := 14) rfl rfl
theorem iw_6_16 : Cond.laysFinal "GoldPlateModel" "GoldPlateModel" "sensesOf" "[I" ∈ gp_ws := gp_in6 (i := 16) rfl rfl
theorem iw_6_18 : Cond.laysFinal "GoldPlateModel" "GoldPlateModel" "needsOf" "[I" ∈ gp_ws := gp_in6 (i := 18) rfl rfl
theorem iw_6_20 : Cond.laysFinal "GoldPlateModel" "GoldPlateModel" "knowsOf" "[I" ∈ gp_ws := gp_in6 (i := 20) rfl rfl
theorem iw_6_22 : Cond.laysFinal "GoldPlateModel" "GoldPlateModel" "other" "[I" ∈ gp_ws := gp_in6 (i := 22) rfl rfl
theorem iw_6_24 : Cond.laysFinal "GoldPlateModel" "GoldPlateModel" "hard" "[I" ∈ gp_ws := gp_in6 (i := 24) rfl rfl
theorem iw_6_26 : Cond.laysFinal "GoldPlateModel" "GoldPlateModel" "message" "[I" ∈ gp_ws := gp_in6 (i := 26) rfl rfl
theorem iw_6_28 : Cond.lays "GoldPlateModel" "GoldPlateModel" "deeper" "I" ∈ gp_ws := gp_in6 (i := 28) rfl rfl
theorem iw_6_30 : Cond.lays "GoldPlateModel" "GoldPlateModel" "when" "I" ∈ gp_ws := gp_in6 (i := 30) rfl rfl
theorem iw_6_32 : Cond.laysFinal "GoldPlateModel" "GoldPlateModel" "chains" "[I" ∈ gp_ws := gp_in6 (i := 32) rfl rfl
theorem iw_6_34 : Cond.laysFinal "GoldPlateModel" "GoldPlateModel" "sensesHad" "[I" ∈ gp_ws := gp_in6 (i := 34) rfl rfl
theorem iw_6_36 : Cond.laysFinal "GoldPlateModel" "GoldPlateModel" "factsHad" "[I" ∈ gp_ws := gp_in6 (i := 36) rfl rfl
theorem iw_6_38 : Cond.laysFinal "GoldPlateModel" "GoldPlateModel" "hand" "[I" ∈ gp_ws := gp_in6 (i := 38) rfl rfl
theorem iw_6_40 : Cond.laysFinal "GoldPlateModel" "GoldPlateModel" "priceMany" "[I" ∈ gp_ws := gp_in6 (i := 40) rfl rfl
theorem iw_6_42 : Cond.laysFinal "GoldPlateModel" "GoldPlateModel" "lineMany" "[I" ∈ gp_ws := gp_in6 (i := 42) rfl rfl
theorem iw_6_44 : Cond.laysFinal "GoldPlateModel" "GoldPlateModel" "tryFrom" "[I" ∈ gp_ws := gp_in6 (i := 44) rfl rfl
theorem iw_6_46 : Cond.laysFinal "GoldPlateModel" "GoldPlateModel" "tryTo" "[I" ∈ gp_ws := gp_in6 (i := 46) rfl rfl
theorem iw_6_48 : Cond.laysFinal "GoldPlateModel" "GoldPlateModel" "priceFrom" "[I" ∈ gp_ws := gp_in6 (i := 48) rfl rfl
theorem iw_6_50 : Cond.laysFinal "GoldPlateModel" "GoldPlateModel" "priceTo" "[I" ∈ gp_ws := gp_in6 (i := 50) rfl rfl
theorem iw_6_52 : Cond.laysFinal "GoldPlateModel" "GoldPlateModel" "whenTo" "[I" ∈ gp_ws := gp_in6 (i := 52) rfl rfl
theorem iw_6_54 : Cond.laysFinal "GoldPlateModel" "GoldPlateModel" "step" "[I" ∈ gp_ws := gp_in6 (i := 54) rfl rfl
theorem iw_6_56 : Cond.laysFinal "GoldPlateModel" "GoldPlateModel" "tape" "[I" ∈ gp_ws := gp_in6 (i := 56) rfl rfl
theorem iw_6_58 : Cond.laysFinal "GoldPlateModel" "GoldPlateModel" "pile" "[I" ∈ gp_ws := gp_in6 (i := 58) rfl rfl
theorem iw_6_60 : Cond.laysFinal "GoldPlateModel" "GoldPlateModel" "facts" "[I" ∈ gp_ws := gp_in6 (i := 60) rfl rfl
theorem iw_6_62 : Cond.laysFinal "GoldPlateModel" "GoldPlateModel" "hasTwin" "[Z" ∈ gp_ws := gp_in6 (i := 62) rfl rfl
theorem iw_6_64 : Cond.laysFinal "GoldPlateModel" "GoldPlateModel" "hasTry" "[Z" ∈ gp_ws := gp_in6 (i := 64) rfl rfl
theorem iw_6_66 : Cond.lays "GoldPlateModel" "GoldPlateModel" "steps" "I" ∈ gp_ws := gp_in6 (i := 66) rfl rfl
theorem iw_6_68 : Cond.lays "GoldPlateModel" "GoldPlateModel" "taped" "I" ∈ gp_ws := gp_in6 (i := 68) rfl rfl
theorem iw_6_70 : Cond.lays "GoldPlateModel" "GoldPlateModel" "at" "I" ∈ gp_ws := gp_in6 (i := 70) rfl rfl
theorem iw_6_72 : Cond.lays "GoldPlateModel" "GoldPlateModel" "token" "I" ∈ gp_ws := gp_in6 (i := 72) rfl rfl
theorem iw_6_74 : Cond.lays "GoldPlateModel" "GoldPlateModel" "tokenAt" "I" ∈ gp_ws := gp_in6 (i := 74) rfl rfl
theorem iw_6_76 : Cond.lays "GoldPlateModel" "GoldPlateModel" "value" "I" ∈ gp_ws := gp_in6 (i := 76) rfl rfl
theorem iw_6_78 : Cond.lays "GoldPlateModel" "GoldPlateModel" "wrong" "I" ∈ gp_ws := gp_in6 (i := 78) rfl rfl
theorem iw_6_80 : Cond.lays "GoldPlateModel" "GoldPlateModel" "wrongAt" "I" ∈ gp_ws := gp_in6 (i := 80) rfl rfl
theorem iw_6_82 : Cond.lays "GoldPlateModel" "GoldPlateModel" "faultKind" "I" ∈ gp_ws := gp_in6 (i := 82) rfl rfl
theorem iw_6_84 : Cond.lays "GoldPlateModel" "GoldPlateModel" "depth" "I" ∈ gp_ws := gp_in6 (i := 84) rfl rfl
theorem iw_6_86 : Cond.lays "GoldPlateModel" "GoldPlateModel" "faultPlace" "I" ∈ gp_ws := gp_in6 (i := 86) rfl rfl
theorem iw_6_88 : Cond.laysFinal "GoldPlateModel" "GoldPlateModel" "priceOf" "[I" ∈ gp_ws := gp_in6 (i := 88) rfl rfl
theorem iw_6_90 : Cond.laysFinal "GoldPlateModel" "GoldPlateModel" "taking" "[I" ∈ gp_ws := gp_in6 (i := 90) rfl rfl
theorem iw_6_92 : Cond.laysFinal "GoldPlateModel" "GoldPlateModel" "cheapest" "[I" ∈ gp_ws := gp_in6 (i := 92) rfl rfl
theorem iw_6_94 : Cond.lays "GoldPlateModel" "GoldPlateModel" "reader" "I" ∈ gp_ws := gp_in6 (i := 94) rfl rfl
theorem iw_6_96 : Cond.lays "GoldPlateModel" "GoldPlateModel" "bound" "I" ∈ gp_ws := gp_in6 (i := 96) rfl rfl
theorem iw_6_98 : Cond.lays "GoldPlateModel" "GoldPlateModel" "found" "I" ∈ gp_ws := gp_in6 (i := 98) rfl rfl
theorem iw_6_100 : Cond.lays "GoldPlateModel" "GoldPlateModel" "leastPrice" "I" ∈ gp_ws := gp_in6 (i := 100) rfl rfl
theorem iw_6_102 : Cond.lays "GoldPlateModel" "GoldPlateModel" "bitMany" "I" ∈ gp_ws := gp_in6 (i := 102) rfl rfl
theorem iw_6_104 : Cond.lays "GoldPlateModel" "GoldPlateModel" "gridMany" "I" ∈ gp_ws := gp_in6 (i := 104) rfl rfl
theorem iw_6_106 : Cond.laysFinal "GoldPlateModel" "GoldPlateModel" "bit" "[I" ∈ gp_ws := gp_in6 (i := 106) rfl rfl
theorem iw_6_108 : Cond.laysFinal "GoldPlateModel" "GoldPlateModel" "gridBit" "[I" ∈ gp_ws := gp_in6 (i := 108) rfl rfl
theorem iw_6_110 : Cond.laysFinal "GoldPlateModel" "GoldPlateModel" "widths" "[I" ∈ gp_ws := gp_in6 (i := 110) rfl rfl
theorem iw_6_112 : Cond.laysFinal "GoldPlateModel" "GoldPlateModel" "tryOf" "[I" ∈ gp_ws := gp_in6 (i := 112) rfl rfl
theorem iw_6_114 : Cond.lays "GoldPlateModel" "GoldPlateModel" "widthMany" "I" ∈ gp_ws := gp_in6 (i := 114) rfl rfl
theorem iw_6_116 : Cond.lays "GoldPlateModel" "GoldPlateModel" "beats" "I" ∈ gp_ws := gp_in6 (i := 116) rfl rfl
theorem iw_6_118 : Cond.laysFinal "GoldPlateModel" "GoldPlateModel" "period" "[I" ∈ gp_ws := gp_in6 (i := 118) rfl rfl
theorem iw_6_120 : Cond.laysFinal "GoldPlateModel" "GoldPlateModel" "slower" "[I" ∈ gp_ws := gp_in6 (i := 120) rfl rfl
theorem iw_6_122 : Cond.laysFinal "GoldPlateModel" "GoldPlateModel" "beatX" "[I" ∈ gp_ws := gp_in6 (i := 122) rfl rfl
theorem iw_6_124 : Cond.laysFinal "GoldPlateModel" "GoldPlateModel" "beatY" "[I" ∈ gp_ws := gp_in6 (i := 124) rfl rfl
theorem iw_6_126 : Cond.laysFinal "GoldPlateModel" "GoldPlateModel" "foundFrom" "[I" ∈ gp_ws := gp_in6 (i := 126) rfl rfl
theorem iw_6_128 : Cond.laysFinal "GoldPlateModel" "GoldPlateModel" "foundTo" "[I" ∈ gp_ws := gp_in6 (i := 128) rfl rfl
theorem iw_6_130 : Cond.laysFinal "GoldPlateModel" "GoldPlateModel" "farOf" "[I" ∈ gp_ws := gp_in6 (i := 130) rfl rfl
theorem iw_6_132 : Cond.lays "GoldPlateModel" "GoldPlateModel" "trials" "I" ∈ gp_ws := gp_in6 (i := 132) rfl rfl
theorem iw_6_134 : Cond.laysFinal "GoldPlateModel" "GoldPlateModel" "trialLong" "[I" ∈ gp_ws := gp_in6 (i := 134) rfl rfl
theorem iw_6_136 : Cond.laysFinal "GoldPlateModel" "GoldPlateModel" "trialMark" "[I" ∈ gp_ws := gp_in6 (i := 136) rfl rfl
theorem iw_6_138 : Cond.laysFinal "GoldPlateModel" "GoldPlateModel" "trialTaking" "[I" ∈ gp_ws := gp_in6 (i := 138) rfl rfl
theorem iw_6_140 : Cond.laysFinal "GoldPlateModel" "GoldPlateModel" "kept" "[I" ∈ gp_ws := gp_in6 (i := 140) rfl rfl
theorem iw_6_143 : Cond.arrayClass .boolean ∈ gp_ws := gp_in6 (i := 143) rfl rfl
theorem iw_6_144 : Cond.methodLink "GoldPlateLaw" 17 ⟨"GoldPlateModel", "mark", "(IIIII)I"⟩ ∈ gp_ws := gp_in6 (i := 144) rfl rfl
theorem iw_6_145 : Cond.instanceMethod ⟨"GoldPlateModel", "mark", "(IIIII)I"⟩ ∈ gp_ws := gp_in6 (i := 145) rfl rfl
theorem iw_6_146 : Cond.selects "GoldPlateModel" ⟨"GoldPlateModel", "mark", "(IIIII)I"⟩ ⟨"GoldPlateModel", "mark", "(IIIII)I"⟩ ∈ gp_ws := gp_in6 (i := 146) rfl rfl
theorem iw_6_147 : Cond.code ⟨"GoldPlateModel", "mark", "(IIIII)I"⟩ prog_14_method_5_code 7 (some .int) ∈ gp_ws := gp_in6 (i := 147) rfl rfl
theorem iw_6_148 : Cond.methodLink "GoldPlateModel" 156 ⟨"GoldPlateModel", "isIn", "(III)Z"⟩ ∈ gp_ws := gp_in6 (i := 148) rfl rfl
theorem iw_6_149 : Cond.static ⟨"GoldPlateModel", "isIn", "(III)Z"⟩ ∈ gp_ws := gp_in6 (i := 149) rfl rfl
theorem iw_6_150 : Cond.code ⟨"GoldPlateModel", "isIn", "(III)Z"⟩ prog_14_method_2_code 3 (some .boolean) ∈ gp_ws := gp_in6 (i := 150) rfl rfl
theorem iw_6_151 : Cond.methodLink "GoldPlateLaw" 22 ⟨"GoldPlateModel", "tell", "(III)Z"⟩ ∈ gp_ws := gp_in6 (i := 151) rfl rfl
theorem iw_6_152 : Cond.instanceMethod ⟨"GoldPlateModel", "tell", "(III)Z"⟩ ∈ gp_ws := gp_in6 (i := 152) rfl rfl
theorem iw_6_153 : Cond.selects "GoldPlateModel" ⟨"GoldPlateModel", "tell", "(III)Z"⟩ ⟨"GoldPlateModel", "tell", "(III)Z"⟩ ∈ gp_ws := gp_in6 (i := 153) rfl rfl
theorem iw_6_154 : Cond.code ⟨"GoldPlateModel", "tell", "(III)Z"⟩ prog_14_method_6_code 4 (some .boolean) ∈ gp_ws := gp_in6 (i := 154) rfl rfl
theorem iw_6_155 : Cond.methodLink "GoldPlateModel" 160 ⟨"GoldPlateModel", "isMark", "(I)Z"⟩ ∈ gp_ws := gp_in6 (i := 155) rfl rfl
theorem iw_6_157 : Cond.instanceMethod ⟨"GoldPlateModel", "isMark", "(I)Z"⟩ ∈ gp_ws := gp_in6 (i := 157) rfl rfl
theorem iw_6_158 : Cond.code ⟨"GoldPlateModel", "isMark", "(I)Z"⟩ prog_14_method_4_code 2 (some .boolean) ∈ gp_ws := gp_in6 (i := 158) rfl rfl
theorem iw_6_159 : Cond.methodLink "GoldPlateLaw" 27 ⟨"GoldPlateModel", "hard", "(II)Z"⟩ ∈ gp_ws := gp_in6 (i := 159) rfl rfl
theorem iw_6_160 : Cond.instanceMethod ⟨"GoldPlateModel", "hard", "(II)Z"⟩ ∈ gp_ws := gp_in6 (i := 160) rfl rfl
theorem iw_6_161 : Cond.selects "GoldPlateModel" ⟨"GoldPlateModel", "hard", "(II)Z"⟩ ⟨"GoldPlateModel", "hard", "(II)Z"⟩ ∈ gp_ws := gp_in6 (i := 161) rfl rfl
theorem iw_6_162 : Cond.code ⟨"GoldPlateModel", "hard", "(II)Z"⟩ prog_14_method_7_code 3 (some .boolean) ∈ gp_ws := gp_in6 (i := 162) rfl rfl
theorem iw_6_163 : Cond.methodLink "GoldPlateLaw" 32 ⟨"GoldPlateModel", "year", "(I)Z"⟩ ∈ gp_ws := gp_in6 (i := 163) rfl rfl
theorem iw_6_164 : Cond.instanceMethod ⟨"GoldPlateModel", "year", "(I)Z"⟩ ∈ gp_ws := gp_in6 (i := 164) rfl rfl
theorem iw_6_165 : Cond.selects "GoldPlateModel" ⟨"GoldPlateModel", "year", "(I)Z"⟩ ⟨"GoldPlateModel", "year", "(I)Z"⟩ ∈ gp_ws := gp_in6 (i := 165) rfl rfl
theorem iw_6_166 : Cond.code ⟨"GoldPlateModel", "year", "(I)Z"⟩ prog_14_method_8_code 2 (some .boolean) ∈ gp_ws := gp_in6 (i := 166) rfl rfl
theorem iw_6_167 : Cond.methodLink "GoldPlateLaw" 37 ⟨"GoldPlateModel", "of", "(II)I"⟩ ∈ gp_ws := gp_in6 (i := 167) rfl rfl
theorem iw_6_168 : Cond.instanceMethod ⟨"GoldPlateModel", "of", "(II)I"⟩ ∈ gp_ws := gp_in6 (i := 168) rfl rfl
theorem iw_6_169 : Cond.selects "GoldPlateModel" ⟨"GoldPlateModel", "of", "(II)I"⟩ ⟨"GoldPlateModel", "of", "(II)I"⟩ ∈ gp_ws := gp_in6 (i := 169) rfl rfl
theorem iw_6_170 : Cond.code ⟨"GoldPlateModel", "of", "(II)I"⟩ prog_14_method_13_code 4 (some .int) ∈ gp_ws := gp_in6 (i := 170) rfl rfl
theorem iw_6_171 : Cond.constant "GoldPlateModel" 175 (-1000000) ∈ gp_ws := gp_in6 (i := 171) rfl rfl
theorem iw_6_172 : Cond.methodLink "GoldPlateModel" 176 ⟨"GoldPlateModel", "chain", "(I)I"⟩ ∈ gp_ws := gp_in6 (i := 172) rfl rfl
theorem iw_6_174 : Cond.instanceMethod ⟨"GoldPlateModel", "chain", "(I)I"⟩ ∈ gp_ws := gp_in6 (i := 174) rfl rfl
theorem iw_6_175 : Cond.code ⟨"GoldPlateModel", "chain", "(I)I"⟩ prog_14_method_12_code 5 (some .int) ∈ gp_ws := gp_in6 (i := 175) rfl rfl
theorem iw_6_176 : Cond.methodLink "GoldPlateModel" 171 ⟨"GoldPlateModel", "left", "(II)I"⟩ ∈ gp_ws := gp_in6 (i := 176) rfl rfl
theorem iw_6_178 : Cond.instanceMethod ⟨"GoldPlateModel", "left", "(II)I"⟩ ∈ gp_ws := gp_in6 (i := 178) rfl rfl
theorem iw_6_179 : Cond.code ⟨"GoldPlateModel", "left", "(II)I"⟩ prog_14_method_10_code 3 (some .int) ∈ gp_ws := gp_in6 (i := 179) rfl rfl
theorem iw_6_180 : Cond.methodLink "GoldPlateModel" 167 ⟨"GoldPlateModel", "depth", "(I)I"⟩ ∈ gp_ws := gp_in6 (i := 180) rfl rfl
theorem iw_6_182 : Cond.instanceMethod ⟨"GoldPlateModel", "depth", "(I)I"⟩ ∈ gp_ws := gp_in6 (i := 182) rfl rfl
theorem iw_6_183 : Cond.code ⟨"GoldPlateModel", "depth", "(I)I"⟩ prog_14_method_9_code 3 (some .int) ∈ gp_ws := gp_in6 (i := 183) rfl rfl
theorem iw_6_184 : Cond.methodLink "GoldPlateModel" 179 ⟨"GoldPlateModel", "isWorn", "(I)Z"⟩ ∈ gp_ws := gp_in6 (i := 184) rfl rfl
theorem iw_6_186 : Cond.instanceMethod ⟨"GoldPlateModel", "isWorn", "(I)Z"⟩ ∈ gp_ws := gp_in6 (i := 186) rfl rfl
theorem iw_6_187 : Cond.code ⟨"GoldPlateModel", "isWorn", "(I)Z"⟩ prog_14_method_11_code 2 (some .boolean) ∈ gp_ws := gp_in6 (i := 187) rfl rfl
theorem iw_6_188 : Cond.methodLink "GoldPlateLaw" 42 ⟨"GoldPlateModel", "put", "(I)I"⟩ ∈ gp_ws := gp_in6 (i := 188) rfl rfl
theorem iw_6_189 : Cond.instanceMethod ⟨"GoldPlateModel", "put", "(I)I"⟩ ∈ gp_ws := gp_in6 (i := 189) rfl rfl
theorem iw_6_190 : Cond.selects "GoldPlateModel" ⟨"GoldPlateModel", "put", "(I)I"⟩ ⟨"GoldPlateModel", "put", "(I)I"⟩ ∈ gp_ws := gp_in6 (i := 190) rfl rfl
theorem iw_6_191 : Cond.code ⟨"GoldPlateModel", "put", "(I)I"⟩ prog_14_method_14_code 3 (some .int) ∈ gp_ws := gp_in6 (i := 191) rfl rfl
theorem iw_6_192 : Cond.methodLink "GoldPlateLaw" 46 ⟨"GoldPlateModel", "feed", "(IIIII)I"⟩ ∈ gp_ws := gp_in6 (i := 192) rfl rfl
theorem iw_6_193 : Cond.instanceMethod ⟨"GoldPlateModel", "feed", "(IIIII)I"⟩ ∈ gp_ws := gp_in6 (i := 193) rfl rfl
theorem iw_6_194 : Cond.selects "GoldPlateModel" ⟨"GoldPlateModel", "feed", "(IIIII)I"⟩ ⟨"GoldPlateModel", "feed", "(IIIII)I"⟩ ∈ gp_ws := gp_in6 (i := 194) rfl rfl
theorem iw_6_195 : Cond.code ⟨"GoldPlateModel", "feed", "(IIIII)I"⟩ prog_14_method_15_code 8 (some .int) ∈ gp_ws := gp_in6 (i := 195) rfl rfl
theorem iw_6_196 : Cond.methodLink "GoldPlateLaw" 50 ⟨"GoldPlateModel", "end", "(I)Z"⟩ ∈ gp_ws := gp_in6 (i := 196) rfl rfl
theorem iw_6_197 : Cond.instanceMethod ⟨"GoldPlateModel", "end", "(I)Z"⟩ ∈ gp_ws := gp_in6 (i := 197) rfl rfl
theorem iw_6_198 : Cond.selects "GoldPlateModel" ⟨"GoldPlateModel", "end", "(I)Z"⟩ ⟨"GoldPlateModel", "end", "(I)Z"⟩ ∈ gp_ws := gp_in6 (i := 198) rfl rfl
theorem iw_6_199 : Cond.code ⟨"GoldPlateModel", "end", "(I)Z"⟩ prog_14_method_16_code 2 (some .boolean) ∈ gp_ws := gp_in6 (i := 199) rfl rfl
theorem iw_6_200 : Cond.methodLink "GoldPlateLaw" 54 ⟨"GoldPlateModel", "mind", "(I)I"⟩ ∈ gp_ws := gp_in6 (i := 200) rfl rfl
theorem iw_6_201 : Cond.instanceMethod ⟨"GoldPlateModel", "mind", "(I)I"⟩ ∈ gp_ws := gp_in6 (i := 201) rfl rfl
theorem iw_6_202 : Cond.selects "GoldPlateModel" ⟨"GoldPlateModel", "mind", "(I)I"⟩ ⟨"GoldPlateModel", "mind", "(I)I"⟩ ∈ gp_ws := gp_in6 (i := 202) rfl rfl
theorem iw_6_203 : Cond.code ⟨"GoldPlateModel", "mind", "(I)I"⟩ prog_14_method_39_code 3 (some .int) ∈ gp_ws := gp_in6 (i := 203) rfl rfl
theorem iw_6_204 : Cond.methodLink "GoldPlateModel" 324 ⟨"GoldPlateModel", "isMind", "(I)Z"⟩ ∈ gp_ws := gp_in6 (i := 204) rfl rfl
theorem iw_6_206 : Cond.instanceMethod ⟨"GoldPlateModel", "isMind", "(I)Z"⟩ ∈ gp_ws := gp_in6 (i := 206) rfl rfl
theorem iw_6_207 : Cond.code ⟨"GoldPlateModel", "isMind", "(I)Z"⟩ prog_14_method_38_code 2 (some .boolean) ∈ gp_ws := gp_in6 (i := 207) rfl rfl
theorem iw_6_208 : Cond.methodLink "GoldPlateModel" 280 ⟨"GoldPlateModel", "next0", "()V"⟩ ∈ gp_ws := gp_in6 (i := 208) rfl rfl
theorem iw_6_210 : Cond.instanceMethod ⟨"GoldPlateModel", "next0", "()V"⟩ ∈ gp_ws := gp_in6 (i := 210) rfl rfl
theorem iw_6_211 : Cond.code ⟨"GoldPlateModel", "next0", "()V"⟩ prog_14_method_23_code 3 none ∈ gp_ws := gp_in6 (i := 211) rfl rfl
theorem iw_6_212 : Cond.methodLink "GoldPlateModel" 253 ⟨"GoldPlateModel", "see", "(I)I"⟩ ∈ gp_ws := gp_in6 (i := 212) rfl rfl
theorem iw_6_214 : Cond.instanceMethod ⟨"GoldPlateModel", "see", "(I)I"⟩ ∈ gp_ws := gp_in6 (i := 214) rfl rfl
theorem iw_6_215 : Cond.code ⟨"GoldPlateModel", "see", "(I)I"⟩ prog_14_method_17_code 2 (some .int) ∈ gp_ws := gp_in6 (i := 215) rfl rfl
theorem iw_6_216 : Cond.methodLink "GoldPlateModel" 259 ⟨"GoldPlateModel", "isLetter", "(I)Z"⟩ ∈ gp_ws := gp_in6 (i := 216) rfl rfl
theorem iw_6_217 : Cond.static ⟨"GoldPlateModel", "isLetter", "(I)Z"⟩ ∈ gp_ws := gp_in6 (i := 217) rfl rfl
theorem iw_6_218 : Cond.code ⟨"GoldPlateModel", "isLetter", "(I)Z"⟩ prog_14_method_18_code 1 (some .boolean) ∈ gp_ws := gp_in6 (i := 218) rfl rfl
theorem iw_6_219 : Cond.methodLink "GoldPlateModel" 262 ⟨"GoldPlateModel", "word", "()I"⟩ ∈ gp_ws := gp_in6 (i := 219) rfl rfl
theorem iw_6_221 : Cond.instanceMethod ⟨"GoldPlateModel", "word", "()I"⟩ ∈ gp_ws := gp_in6 (i := 221) rfl rfl
theorem iw_6_222 : Cond.code ⟨"GoldPlateModel", "word", "()I"⟩ prog_14_method_22_code 1 (some .int) ∈ gp_ws := gp_in6 (i := 222) rfl rfl
theorem iw_6_224 : Cond.methodLink "GoldPlateModel" 206 ⟨"GoldPlateModel", "is", "(Ljava/lang/String;)Z"⟩ ∈ gp_ws := gp_in6 (i := 224) rfl rfl
theorem iw_6_226 : Cond.instanceMethod ⟨"GoldPlateModel", "is", "(Ljava/lang/String;)Z"⟩ ∈ gp_ws := gp_in6 (i := 226) rfl rfl
theorem iw_6_227 : Cond.code ⟨"GoldPlateModel", "is", "(Ljava/lang/String;)Z"⟩ prog_14_method_20_code 4 (some .boolean) ∈ gp_ws := gp_in6 (i := 227) rfl rfl
theorem iw_6_228 : Cond.methodLink "GoldPlateModel" 194 ⟨"java/lang/String", "length", "()I"⟩ ∈ gp_ws := gp_in6 (i := 228) rfl rfl
theorem iw_6_229 : Cond.methodLink "GoldPlateModel" 200 ⟨"java/lang/String", "charAt", "(I)C"⟩ ∈ gp_ws := gp_in6 (i := 229) rfl rfl
theorem iw_6_238 : Cond.methodLink "GoldPlateModel" 250 ⟨"GoldPlateModel", "name", "()I"⟩ ∈ gp_ws := gp_in6 (i := 238) rfl rfl
theorem iw_7_0 : Cond.instanceMethod ⟨"GoldPlateModel", "name", "()I"⟩ ∈ gp_ws := gp_in7 (i := 0) rfl rfl
theorem iw_7_1 : Cond.code ⟨"GoldPlateModel", "name", "()I"⟩ prog_14_method_21_code 1 (some .int) ∈ gp_ws := gp_in7 (i := 1) rfl rfl
theorem iw_7_15 : Cond.methodLink "GoldPlateModel" 265 ⟨"GoldPlateModel", "isDigit", "(I)Z"⟩ ∈ gp_ws := gp_in7 (i := 15) rfl rfl
theorem iw_7_16 : Cond.static ⟨"GoldPlateModel", "isDigit", "(I)Z"⟩ ∈ gp_ws := gp_in7 (i := 16) rfl rfl
theorem iw_7_17 : Cond.code ⟨"GoldPlateModel", "isDigit", "(I)Z"⟩ prog_14_method_19_code 1 (some .boolean) ∈ gp_ws := gp_in7 (i := 17) rfl rfl
theorem iw_7_18 : Cond.methodLink "GoldPlateModel" 330 ⟨"GoldPlateModel", "aLine", "()Z"⟩ ∈ gp_ws := gp_in7 (i := 18) rfl rfl
theorem iw_7_20 : Cond.instanceMethod ⟨"GoldPlateModel", "aLine", "()Z"⟩ ∈ gp_ws := gp_in7 (i := 20) rfl rfl
theorem iw_7_21 : Cond.code ⟨"GoldPlateModel", "aLine", "()Z"⟩ prog_14_method_36_code 3 (some .boolean) ∈ gp_ws := gp_in7 (i := 21) rfl rfl
theorem iw_7_22 : Cond.methodLink "GoldPlateModel" 277 ⟨"GoldPlateModel", "bad", "(I)Z"⟩ ∈ gp_ws := gp_in7 (i := 22) rfl rfl
theorem iw_7_24 : Cond.instanceMethod ⟨"GoldPlateModel", "bad", "(I)Z"⟩ ∈ gp_ws := gp_in7 (i := 24) rfl rfl
theorem iw_7_25 : Cond.code ⟨"GoldPlateModel", "bad", "(I)Z"⟩ prog_14_method_24_code 2 (some .boolean) ∈ gp_ws := gp_in7 (i := 25) rfl rfl
theorem iw_7_26 : Cond.methodLink "GoldPlateModel" 299 ⟨"GoldPlateModel", "number", "(II)Z"⟩ ∈ gp_ws := gp_in7 (i := 26) rfl rfl
theorem iw_7_28 : Cond.instanceMethod ⟨"GoldPlateModel", "number", "(II)Z"⟩ ∈ gp_ws := gp_in7 (i := 28) rfl rfl
theorem iw_7_29 : Cond.code ⟨"GoldPlateModel", "number", "(II)Z"⟩ prog_14_method_26_code 3 (some .boolean) ∈ gp_ws := gp_in7 (i := 29) rfl rfl
theorem iw_7_30 : Cond.methodLink "GoldPlateModel" 321 ⟨"GoldPlateModel", "aPrice", "()Z"⟩ ∈ gp_ws := gp_in7 (i := 30) rfl rfl
theorem iw_7_32 : Cond.instanceMethod ⟨"GoldPlateModel", "aPrice", "()Z"⟩ ∈ gp_ws := gp_in7 (i := 32) rfl rfl
theorem iw_7_33 : Cond.code ⟨"GoldPlateModel", "aPrice", "()Z"⟩ prog_14_method_35_code 2 (some .boolean) ∈ gp_ws := gp_in7 (i := 33) rfl rfl
theorem iw_7_34 : Cond.methodLink "GoldPlateModel" 318 ⟨"GoldPlateModel", "sumUp", "()Z"⟩ ∈ gp_ws := gp_in7 (i := 34) rfl rfl
theorem iw_7_36 : Cond.instanceMethod ⟨"GoldPlateModel", "sumUp", "()Z"⟩ ∈ gp_ws := gp_in7 (i := 36) rfl rfl
theorem iw_7_37 : Cond.code ⟨"GoldPlateModel", "sumUp", "()Z"⟩ prog_14_method_29_code 2 (some .boolean) ∈ gp_ws := gp_in7 (i := 37) rfl rfl
theorem iw_7_38 : Cond.methodLink "GoldPlateModel" 288 ⟨"GoldPlateModel", "product", "()Z"⟩ ∈ gp_ws := gp_in7 (i := 38) rfl rfl
theorem iw_7_40 : Cond.instanceMethod ⟨"GoldPlateModel", "product", "()Z"⟩ ∈ gp_ws := gp_in7 (i := 40) rfl rfl
theorem iw_7_41 : Cond.code ⟨"GoldPlateModel", "product", "()Z"⟩ prog_14_method_30_code 3 (some .boolean) ∈ gp_ws := gp_in7 (i := 41) rfl rfl
theorem iw_7_42 : Cond.methodLink "GoldPlateModel" 296 ⟨"GoldPlateModel", "unit", "()Z"⟩ ∈ gp_ws := gp_in7 (i := 42) rfl rfl
theorem iw_7_44 : Cond.instanceMethod ⟨"GoldPlateModel", "unit", "()Z"⟩ ∈ gp_ws := gp_in7 (i := 44) rfl rfl
theorem iw_7_45 : Cond.code ⟨"GoldPlateModel", "unit", "()Z"⟩ prog_14_method_31_code 2 (some .boolean) ∈ gp_ws := gp_in7 (i := 45) rfl rfl
theorem iw_7_46 : Cond.methodLink "GoldPlateModel" 292 ⟨"GoldPlateModel", "lay", "(II)V"⟩ ∈ gp_ws := gp_in7 (i := 46) rfl rfl
theorem iw_7_48 : Cond.instanceMethod ⟨"GoldPlateModel", "lay", "(II)V"⟩ ∈ gp_ws := gp_in7 (i := 48) rfl rfl
theorem iw_7_49 : Cond.code ⟨"GoldPlateModel", "lay", "(II)V"⟩ prog_14_method_27_code 3 none ∈ gp_ws := gp_in7 (i := 49) rfl rfl
theorem iw_7_50 : Cond.methodLink "GoldPlateModel" 312 ⟨"GoldPlateModel", "any", "()Z"⟩ ∈ gp_ws := gp_in7 (i := 50) rfl rfl
theorem iw_7_52 : Cond.instanceMethod ⟨"GoldPlateModel", "any", "()Z"⟩ ∈ gp_ws := gp_in7 (i := 52) rfl rfl
theorem iw_7_53 : Cond.code ⟨"GoldPlateModel", "any", "()Z"⟩ prog_14_method_32_code 1 (some .boolean) ∈ gp_ws := gp_in7 (i := 53) rfl rfl
theorem iw_7_54 : Cond.methodLink "GoldPlateModel" 303 ⟨"GoldPlateModel", "every", "()Z"⟩ ∈ gp_ws := gp_in7 (i := 54) rfl rfl
theorem iw_7_56 : Cond.instanceMethod ⟨"GoldPlateModel", "every", "()Z"⟩ ∈ gp_ws := gp_in7 (i := 56) rfl rfl
theorem iw_7_57 : Cond.code ⟨"GoldPlateModel", "every", "()Z"⟩ prog_14_method_33_code 1 (some .boolean) ∈ gp_ws := gp_in7 (i := 57) rfl rfl
theorem iw_7_58 : Cond.methodLink "GoldPlateModel" 306 ⟨"GoldPlateModel", "one", "()Z"⟩ ∈ gp_ws := gp_in7 (i := 58) rfl rfl
theorem iw_7_60 : Cond.instanceMethod ⟨"GoldPlateModel", "one", "()Z"⟩ ∈ gp_ws := gp_in7 (i := 60) rfl rfl
theorem iw_7_61 : Cond.code ⟨"GoldPlateModel", "one", "()Z"⟩ prog_14_method_34_code 2 (some .boolean) ∈ gp_ws := gp_in7 (i := 61) rfl rfl
theorem iw_7_62 : Cond.methodLink "GoldPlateModel" 309 ⟨"GoldPlateModel", "opens", "()Z"⟩ ∈ gp_ws := gp_in7 (i := 62) rfl rfl
theorem iw_7_64 : Cond.instanceMethod ⟨"GoldPlateModel", "opens", "()Z"⟩ ∈ gp_ws := gp_in7 (i := 64) rfl rfl
theorem iw_7_65 : Cond.code ⟨"GoldPlateModel", "opens", "()Z"⟩ prog_14_method_28_code 1 (some .boolean) ∈ gp_ws := gp_in7 (i := 65) rfl rfl
theorem iw_7_66 : Cond.methodLink "GoldPlateModel" 315 ⟨"GoldPlateModel", "need", "(I)Z"⟩ ∈ gp_ws := gp_in7 (i := 66) rfl rfl
theorem iw_7_68 : Cond.instanceMethod ⟨"GoldPlateModel", "need", "(I)Z"⟩ ∈ gp_ws := gp_in7 (i := 68) rfl rfl
theorem iw_7_69 : Cond.code ⟨"GoldPlateModel", "need", "(I)Z"⟩ prog_14_method_25_code 2 (some .boolean) ∈ gp_ws := gp_in7 (i := 69) rfl rfl
theorem iw_7_70 : Cond.methodLink "GoldPlateModel" 333 ⟨"GoldPlateModel", "takesMind", "(II)V"⟩ ∈ gp_ws := gp_in7 (i := 70) rfl rfl
theorem iw_7_72 : Cond.instanceMethod ⟨"GoldPlateModel", "takesMind", "(II)V"⟩ ∈ gp_ws := gp_in7 (i := 72) rfl rfl
theorem iw_7_73 : Cond.code ⟨"GoldPlateModel", "takesMind", "(II)V"⟩ prog_14_method_37_code 4 none ∈ gp_ws := gp_in7 (i := 73) rfl rfl
theorem iw_7_74 : Cond.methodLink "GoldPlateLaw" 58 ⟨"GoldPlateModel", "fault", "(I)I"⟩ ∈ gp_ws := gp_in7 (i := 74) rfl rfl
theorem iw_7_75 : Cond.instanceMethod ⟨"GoldPlateModel", "fault", "(I)I"⟩ ∈ gp_ws := gp_in7 (i := 75) rfl rfl
theorem iw_7_76 : Cond.selects "GoldPlateModel" ⟨"GoldPlateModel", "fault", "(I)I"⟩ ⟨"GoldPlateModel", "fault", "(I)I"⟩ ∈ gp_ws := gp_in7 (i := 76) rfl rfl
theorem iw_7_77 : Cond.code ⟨"GoldPlateModel", "fault", "(I)I"⟩ prog_14_method_40_code 2 (some .int) ∈ gp_ws := gp_in7 (i := 77) rfl rfl
theorem iw_7_78 : Cond.methodLink "GoldPlateLaw" 62 ⟨"GoldPlateModel", "readings", "(II)I"⟩ ∈ gp_ws := gp_in7 (i := 78) rfl rfl
theorem iw_7_79 : Cond.instanceMethod ⟨"GoldPlateModel", "readings", "(II)I"⟩ ∈ gp_ws := gp_in7 (i := 79) rfl rfl
theorem iw_7_80 : Cond.selects "GoldPlateModel" ⟨"GoldPlateModel", "readings", "(II)I"⟩ ⟨"GoldPlateModel", "readings", "(II)I"⟩ ∈ gp_ws := gp_in7 (i := 80) rfl rfl
theorem iw_7_81 : Cond.code ⟨"GoldPlateModel", "readings", "(II)I"⟩ prog_14_method_50_code 3 (some .int) ∈ gp_ws := gp_in7 (i := 81) rfl rfl
theorem iw_7_82 : Cond.methodLink "GoldPlateModel" 374 ⟨"GoldPlateModel", "laysPrices", "(I)V"⟩ ∈ gp_ws := gp_in7 (i := 82) rfl rfl
theorem iw_7_84 : Cond.instanceMethod ⟨"GoldPlateModel", "laysPrices", "(I)V"⟩ ∈ gp_ws := gp_in7 (i := 84) rfl rfl
theorem iw_7_85 : Cond.code ⟨"GoldPlateModel", "laysPrices", "(I)V"⟩ prog_14_method_46_code 6 none ∈ gp_ws := gp_in7 (i := 85) rfl rfl
theorem iw_7_86 : Cond.methodLink "GoldPlateModel" 346 ⟨"GoldPlateModel", "priceNow", "(I)I"⟩ ∈ gp_ws := gp_in7 (i := 86) rfl rfl
theorem iw_7_88 : Cond.instanceMethod ⟨"GoldPlateModel", "priceNow", "(I)I"⟩ ∈ gp_ws := gp_in7 (i := 88) rfl rfl
theorem iw_7_89 : Cond.code ⟨"GoldPlateModel", "priceNow", "(I)I"⟩ prog_14_method_43_code 5 (some .int) ∈ gp_ws := gp_in7 (i := 89) rfl rfl
theorem iw_7_90 : Cond.methodLink "GoldPlateModel" 340 ⟨"GoldPlateModel", "comesTo", "(III)I"⟩ ∈ gp_ws := gp_in7 (i := 90) rfl rfl
theorem iw_7_92 : Cond.instanceMethod ⟨"GoldPlateModel", "comesTo", "(III)I"⟩ ∈ gp_ws := gp_in7 (i := 92) rfl rfl
theorem iw_7_93 : Cond.code ⟨"GoldPlateModel", "comesTo", "(III)I"⟩ prog_14_method_42_code 8 (some .int) ∈ gp_ws := gp_in7 (i := 93) rfl rfl
theorem iw_7_94 : Cond.methodLink "GoldPlateModel" 336 ⟨"GoldPlateModel", "both", "(III)I"⟩ ∈ gp_ws := gp_in7 (i := 94) rfl rfl
theorem iw_7_95 : Cond.static ⟨"GoldPlateModel", "both", "(III)I"⟩ ∈ gp_ws := gp_in7 (i := 95) rfl rfl
theorem iw_7_96 : Cond.code ⟨"GoldPlateModel", "both", "(III)I"⟩ prog_14_method_41_code 3 (some .int) ∈ gp_ws := gp_in7 (i := 96) rfl rfl
theorem iw_7_97 : Cond.methodLink "GoldPlateModel" 370 ⟨"GoldPlateModel", "goesOn", "(IIZ)V"⟩ ∈ gp_ws := gp_in7 (i := 97) rfl rfl
theorem iw_7_99 : Cond.instanceMethod ⟨"GoldPlateModel", "goesOn", "(IIZ)V"⟩ ∈ gp_ws := gp_in7 (i := 99) rfl rfl
theorem iw_7_100 : Cond.code ⟨"GoldPlateModel", "goesOn", "(IIZ)V"⟩ prog_14_method_49_code 5 none ∈ gp_ws := gp_in7 (i := 100) rfl rfl
theorem iw_7_101 : Cond.methodLink "GoldPlateModel" 364 ⟨"GoldPlateModel", "canTake", "(II)Z"⟩ ∈ gp_ws := gp_in7 (i := 101) rfl rfl
theorem iw_7_103 : Cond.instanceMethod ⟨"GoldPlateModel", "canTake", "(II)Z"⟩ ∈ gp_ws := gp_in7 (i := 103) rfl rfl
theorem iw_7_104 : Cond.code ⟨"GoldPlateModel", "canTake", "(II)Z"⟩ prog_14_method_47_code 6 (some .boolean) ∈ gp_ws := gp_in7 (i := 104) rfl rfl
theorem iw_7_105 : Cond.methodLink "GoldPlateModel" 349 ⟨"GoldPlateModel", "canSee", "(III)Z"⟩ ∈ gp_ws := gp_in7 (i := 105) rfl rfl
theorem iw_7_107 : Cond.instanceMethod ⟨"GoldPlateModel", "canSee", "(III)Z"⟩ ∈ gp_ws := gp_in7 (i := 107) rfl rfl
theorem iw_7_108 : Cond.code ⟨"GoldPlateModel", "canSee", "(III)Z"⟩ prog_14_method_44_code 4 (some .boolean) ∈ gp_ws := gp_in7 (i := 108) rfl rfl
theorem iw_7_109 : Cond.methodLink "GoldPlateModel" 367 ⟨"GoldPlateModel", "isTwice", "(II)Z"⟩ ∈ gp_ws := gp_in7 (i := 109) rfl rfl
theorem iw_7_111 : Cond.instanceMethod ⟨"GoldPlateModel", "isTwice", "(II)Z"⟩ ∈ gp_ws := gp_in7 (i := 111) rfl rfl
theorem iw_7_112 : Cond.code ⟨"GoldPlateModel", "isTwice", "(II)Z"⟩ prog_14_method_48_code 4 (some .boolean) ∈ gp_ws := gp_in7 (i := 112) rfl rfl
theorem iw_7_113 : Cond.methodLink "GoldPlateModel" 352 ⟨"GoldPlateModel", "thing", "(II)I"⟩ ∈ gp_ws := gp_in7 (i := 113) rfl rfl
theorem iw_7_115 : Cond.instanceMethod ⟨"GoldPlateModel", "thing", "(II)I"⟩ ∈ gp_ws := gp_in7 (i := 115) rfl rfl
theorem iw_7_116 : Cond.code ⟨"GoldPlateModel", "thing", "(II)I"⟩ prog_14_method_45_code 3 (some .int) ∈ gp_ws := gp_in7 (i := 116) rfl rfl
theorem iw_7_117 : Cond.methodLink "GoldPlateLaw" 66 ⟨"GoldPlateModel", "cheapest", "(II)I"⟩ ∈ gp_ws := gp_in7 (i := 117) rfl rfl
theorem iw_7_118 : Cond.instanceMethod ⟨"GoldPlateModel", "cheapest", "(II)I"⟩ ∈ gp_ws := gp_in7 (i := 118) rfl rfl
theorem iw_7_119 : Cond.selects "GoldPlateModel" ⟨"GoldPlateModel", "cheapest", "(II)I"⟩ ⟨"GoldPlateModel", "cheapest", "(II)I"⟩ ∈ gp_ws := gp_in7 (i := 119) rfl rfl
theorem iw_7_120 : Cond.code ⟨"GoldPlateModel", "cheapest", "(II)I"⟩ prog_14_method_53_code 6 (some .int) ∈ gp_ws := gp_in7 (i := 120) rfl rfl
theorem iw_7_121 : Cond.methodLink "GoldPlateModel" 378 ⟨"GoldPlateModel", "seeks", "(I)V"⟩ ∈ gp_ws := gp_in7 (i := 121) rfl rfl
theorem iw_7_123 : Cond.instanceMethod ⟨"GoldPlateModel", "seeks", "(I)V"⟩ ∈ gp_ws := gp_in7 (i := 123) rfl rfl
theorem iw_7_124 : Cond.code ⟨"GoldPlateModel", "seeks", "(I)V"⟩ prog_14_method_51_code 2 none ∈ gp_ws := gp_in7 (i := 124) rfl rfl
theorem iw_7_125 : Cond.methodLink "GoldPlateModel" 381 ⟨"GoldPlateModel", "allNeeds", "(I)I"⟩ ∈ gp_ws := gp_in7 (i := 125) rfl rfl
theorem iw_7_127 : Cond.instanceMethod ⟨"GoldPlateModel", "allNeeds", "(I)I"⟩ ∈ gp_ws := gp_in7 (i := 127) rfl rfl
theorem iw_7_128 : Cond.code ⟨"GoldPlateModel", "allNeeds", "(I)I"⟩ prog_14_method_52_code 4 (some .int) ∈ gp_ws := gp_in7 (i := 128) rfl rfl
theorem iw_7_129 : Cond.methodLink "GoldPlateLaw" 70 ⟨"GoldPlateModel", "alone", "(II)I"⟩ ∈ gp_ws := gp_in7 (i := 129) rfl rfl
theorem iw_7_130 : Cond.instanceMethod ⟨"GoldPlateModel", "alone", "(II)I"⟩ ∈ gp_ws := gp_in7 (i := 130) rfl rfl
theorem iw_7_131 : Cond.selects "GoldPlateModel" ⟨"GoldPlateModel", "alone", "(II)I"⟩ ⟨"GoldPlateModel", "alone", "(II)I"⟩ ∈ gp_ws := gp_in7 (i := 131) rfl rfl
theorem iw_7_132 : Cond.code ⟨"GoldPlateModel", "alone", "(II)I"⟩ prog_14_method_55_code 3 (some .int) ∈ gp_ws := gp_in7 (i := 132) rfl rfl
theorem iw_7_133 : Cond.methodLink "GoldPlateModel" 384 ⟨"GoldPlateModel", "isAlone", "(III)Z"⟩ ∈ gp_ws := gp_in7 (i := 133) rfl rfl
theorem iw_7_135 : Cond.instanceMethod ⟨"GoldPlateModel", "isAlone", "(III)Z"⟩ ∈ gp_ws := gp_in7 (i := 135) rfl rfl
theorem iw_7_136 : Cond.code ⟨"GoldPlateModel", "isAlone", "(III)Z"⟩ prog_14_method_54_code 6 (some .boolean) ∈ gp_ws := gp_in7 (i := 136) rfl rfl
theorem iw_7_137 : Cond.methodLink "GoldPlateLaw" 74 ⟨"GoldPlateModel", "bits", "(II)I"⟩ ∈ gp_ws := gp_in7 (i := 137) rfl rfl
theorem iw_7_138 : Cond.instanceMethod ⟨"GoldPlateModel", "bits", "(II)I"⟩ ∈ gp_ws := gp_in7 (i := 138) rfl rfl
theorem iw_7_139 : Cond.selects "GoldPlateModel" ⟨"GoldPlateModel", "bits", "(II)I"⟩ ⟨"GoldPlateModel", "bits", "(II)I"⟩ ∈ gp_ws := gp_in7 (i := 139) rfl rfl
theorem iw_7_140 : Cond.code ⟨"GoldPlateModel", "bits", "(II)I"⟩ prog_14_method_56_code 4 (some .int) ∈ gp_ws := gp_in7 (i := 140) rfl rfl
theorem iw_7_141 : Cond.methodLink "GoldPlateLaw" 78 ⟨"GoldPlateModel", "grid", "(II)I"⟩ ∈ gp_ws := gp_in7 (i := 141) rfl rfl
theorem iw_7_142 : Cond.instanceMethod ⟨"GoldPlateModel", "grid", "(II)I"⟩ ∈ gp_ws := gp_in7 (i := 142) rfl rfl
theorem iw_7_143 : Cond.selects "GoldPlateModel" ⟨"GoldPlateModel", "grid", "(II)I"⟩ ⟨"GoldPlateModel", "grid", "(II)I"⟩ ∈ gp_ws := gp_in7 (i := 143) rfl rfl
theorem iw_7_144 : Cond.code ⟨"GoldPlateModel", "grid", "(II)I"⟩ prog_14_method_57_code 4 (some .int) ∈ gp_ws := gp_in7 (i := 144) rfl rfl
theorem iw_7_145 : Cond.methodLink "GoldPlateLaw" 82 ⟨"GoldPlateModel", "widths", "(II)I"⟩ ∈ gp_ws := gp_in7 (i := 145) rfl rfl
theorem iw_7_146 : Cond.instanceMethod ⟨"GoldPlateModel", "widths", "(II)I"⟩ ∈ gp_ws := gp_in7 (i := 146) rfl rfl
theorem iw_7_147 : Cond.selects "GoldPlateModel" ⟨"GoldPlateModel", "widths", "(II)I"⟩ ⟨"GoldPlateModel", "widths", "(II)I"⟩ ∈ gp_ws := gp_in7 (i := 147) rfl rfl
theorem iw_7_148 : Cond.code ⟨"GoldPlateModel", "widths", "(II)I"⟩ prog_14_method_64_code 3 (some .int) ∈ gp_ws := gp_in7 (i := 148) rfl rfl
theorem iw_7_149 : Cond.methodLink "GoldPlateModel" 411 ⟨"GoldPlateModel", "findsWidths", "(I)V"⟩ ∈ gp_ws := gp_in7 (i := 149) rfl rfl
theorem iw_7_151 : Cond.instanceMethod ⟨"GoldPlateModel", "findsWidths", "(I)V"⟩ ∈ gp_ws := gp_in7 (i := 151) rfl rfl
theorem iw_7_152 : Cond.code ⟨"GoldPlateModel", "findsWidths", "(I)V"⟩ prog_14_method_63_code 5 none ∈ gp_ws := gp_in7 (i := 152) rfl rfl
theorem iw_7_153 : Cond.methodLink "GoldPlateModel" 405 ⟨"GoldPlateModel", "isWidth", "(I)Z"⟩ ∈ gp_ws := gp_in7 (i := 153) rfl rfl
theorem iw_7_155 : Cond.instanceMethod ⟨"GoldPlateModel", "isWidth", "(I)Z"⟩ ∈ gp_ws := gp_in7 (i := 155) rfl rfl
theorem iw_7_156 : Cond.code ⟨"GoldPlateModel", "isWidth", "(I)Z"⟩ prog_14_method_58_code 2 (some .boolean) ∈ gp_ws := gp_in7 (i := 156) rfl rfl
theorem iw_7_157 : Cond.methodLink "GoldPlateModel" 408 ⟨"GoldPlateModel", "triedAs", "(II)I"⟩ ∈ gp_ws := gp_in7 (i := 157) rfl rfl
theorem iw_7_159 : Cond.instanceMethod ⟨"GoldPlateModel", "triedAs", "(II)I"⟩ ∈ gp_ws := gp_in7 (i := 159) rfl rfl
theorem iw_7_160 : Cond.code ⟨"GoldPlateModel", "triedAs", "(II)I"⟩ prog_14_method_62_code 5 (some .int) ∈ gp_ws := gp_in7 (i := 160) rfl rfl
theorem iw_7_161 : Cond.methodLink "GoldPlateModel" 397 ⟨"GoldPlateModel", "isPrime", "(I)Z"⟩ ∈ gp_ws := gp_in7 (i := 161) rfl rfl
theorem iw_7_162 : Cond.static ⟨"GoldPlateModel", "isPrime", "(I)Z"⟩ ∈ gp_ws := gp_in7 (i := 162) rfl rfl
theorem iw_7_163 : Cond.code ⟨"GoldPlateModel", "isPrime", "(I)Z"⟩ prog_14_method_60_code 2 (some .boolean) ∈ gp_ws := gp_in7 (i := 163) rfl rfl
theorem iw_7_164 : Cond.methodLink "GoldPlateModel" 400 ⟨"GoldPlateModel", "edges", "(II)I"⟩ ∈ gp_ws := gp_in7 (i := 164) rfl rfl
theorem iw_7_166 : Cond.instanceMethod ⟨"GoldPlateModel", "edges", "(II)I"⟩ ∈ gp_ws := gp_in7 (i := 166) rfl rfl
theorem iw_7_167 : Cond.code ⟨"GoldPlateModel", "edges", "(II)I"⟩ prog_14_method_61_code 7 (some .int) ∈ gp_ws := gp_in7 (i := 167) rfl rfl
theorem iw_7_168 : Cond.methodLink "GoldPlateModel" 393 ⟨"GoldPlateModel", "laidAt", "(IIII)I"⟩ ∈ gp_ws := gp_in7 (i := 168) rfl rfl
theorem iw_7_170 : Cond.instanceMethod ⟨"GoldPlateModel", "laidAt", "(IIII)I"⟩ ∈ gp_ws := gp_in7 (i := 170) rfl rfl
theorem iw_7_171 : Cond.code ⟨"GoldPlateModel", "laidAt", "(IIII)I"⟩ prog_14_method_59_code 5 (some .int) ∈ gp_ws := gp_in7 (i := 171) rfl rfl
theorem iw_7_172 : Cond.methodLink "GoldPlateLaw" 87 ⟨"GoldPlateModel", "laid", "(III)I"⟩ ∈ gp_ws := gp_in7 (i := 172) rfl rfl
theorem iw_7_173 : Cond.instanceMethod ⟨"GoldPlateModel", "laid", "(III)I"⟩ ∈ gp_ws := gp_in7 (i := 173) rfl rfl
theorem iw_7_174 : Cond.selects "GoldPlateModel" ⟨"GoldPlateModel", "laid", "(III)I"⟩ ⟨"GoldPlateModel", "laid", "(III)I"⟩ ∈ gp_ws := gp_in7 (i := 174) rfl rfl
theorem iw_7_175 : Cond.code ⟨"GoldPlateModel", "laid", "(III)I"⟩ prog_14_method_65_code 9 (some .int) ∈ gp_ws := gp_in7 (i := 175) rfl rfl
theorem iw_7_176 : Cond.methodLink "GoldPlateLaw" 92 ⟨"GoldPlateModel", "beat", "(IIII)I"⟩ ∈ gp_ws := gp_in7 (i := 176) rfl rfl
theorem iw_7_177 : Cond.instanceMethod ⟨"GoldPlateModel", "beat", "(IIII)I"⟩ ∈ gp_ws := gp_in7 (i := 177) rfl rfl
theorem iw_7_178 : Cond.selects "GoldPlateModel" ⟨"GoldPlateModel", "beat", "(IIII)I"⟩ ⟨"GoldPlateModel", "beat", "(IIII)I"⟩ ∈ gp_ws := gp_in7 (i := 178) rfl rfl
theorem iw_7_179 : Cond.code ⟨"GoldPlateModel", "beat", "(IIII)I"⟩ prog_14_method_67_code 5 (some .int) ∈ gp_ws := gp_in7 (i := 179) rfl rfl
theorem iw_7_180 : Cond.constant "GoldPlateModel" 417 (999999) ∈ gp_ws := gp_in7 (i := 180) rfl rfl
theorem iw_7_181 : Cond.methodLink "GoldPlateLaw" 96 ⟨"GoldPlateModel", "found", "(III)Z"⟩ ∈ gp_ws := gp_in7 (i := 181) rfl rfl
theorem iw_7_182 : Cond.instanceMethod ⟨"GoldPlateModel", "found", "(III)Z"⟩ ∈ gp_ws := gp_in7 (i := 182) rfl rfl
theorem iw_7_183 : Cond.selects "GoldPlateModel" ⟨"GoldPlateModel", "found", "(III)Z"⟩ ⟨"GoldPlateModel", "found", "(III)Z"⟩ ∈ gp_ws := gp_in7 (i := 183) rfl rfl
theorem iw_7_184 : Cond.code ⟨"GoldPlateModel", "found", "(III)Z"⟩ prog_14_method_68_code 4 (some .boolean) ∈ gp_ws := gp_in7 (i := 184) rfl rfl
theorem iw_7_185 : Cond.methodLink "GoldPlateModel" 418 ⟨"GoldPlateModel", "isBeat", "(I)Z"⟩ ∈ gp_ws := gp_in7 (i := 185) rfl rfl
theorem iw_7_187 : Cond.instanceMethod ⟨"GoldPlateModel", "isBeat", "(I)Z"⟩ ∈ gp_ws := gp_in7 (i := 187) rfl rfl
theorem iw_7_188 : Cond.code ⟨"GoldPlateModel", "isBeat", "(I)Z"⟩ prog_14_method_66_code 2 (some .boolean) ∈ gp_ws := gp_in7 (i := 188) rfl rfl
theorem iw_7_189 : Cond.constant "GoldPlateModel" 421 (9999999) ∈ gp_ws := gp_in7 (i := 189) rfl rfl
theorem iw_7_190 : Cond.methodLink "GoldPlateLaw" 100 ⟨"GoldPlateModel", "far", "(II)Z"⟩ ∈ gp_ws := gp_in7 (i := 190) rfl rfl
theorem iw_7_191 : Cond.instanceMethod ⟨"GoldPlateModel", "far", "(II)Z"⟩ ∈ gp_ws := gp_in7 (i := 191) rfl rfl
theorem iw_7_192 : Cond.selects "GoldPlateModel" ⟨"GoldPlateModel", "far", "(II)Z"⟩ ⟨"GoldPlateModel", "far", "(II)Z"⟩ ∈ gp_ws := gp_in7 (i := 192) rfl rfl
theorem iw_7_193 : Cond.code ⟨"GoldPlateModel", "far", "(II)Z"⟩ prog_14_method_69_code 3 (some .boolean) ∈ gp_ws := gp_in7 (i := 193) rfl rfl
theorem iw_7_194 : Cond.methodLink "GoldPlateLaw" 104 ⟨"GoldPlateModel", "years", "(I)I"⟩ ∈ gp_ws := gp_in7 (i := 194) rfl rfl
theorem iw_7_195 : Cond.instanceMethod ⟨"GoldPlateModel", "years", "(I)I"⟩ ∈ gp_ws := gp_in7 (i := 195) rfl rfl
theorem iw_7_196 : Cond.selects "GoldPlateModel" ⟨"GoldPlateModel", "years", "(I)I"⟩ ⟨"GoldPlateModel", "years", "(I)I"⟩ ∈ gp_ws := gp_in7 (i := 196) rfl rfl
theorem iw_7_197 : Cond.code ⟨"GoldPlateModel", "years", "(I)I"⟩ prog_14_method_71_code 7 (some .int) ∈ gp_ws := gp_in7 (i := 197) rfl rfl
theorem iw_7_198 : Cond.methodLink "GoldPlateModel" 424 ⟨"GoldPlateModel", "isThen", "(I)Z"⟩ ∈ gp_ws := gp_in7 (i := 198) rfl rfl
theorem iw_7_200 : Cond.instanceMethod ⟨"GoldPlateModel", "isThen", "(I)Z"⟩ ∈ gp_ws := gp_in7 (i := 200) rfl rfl
theorem iw_7_201 : Cond.code ⟨"GoldPlateModel", "isThen", "(I)Z"⟩ prog_14_method_70_code 5 (some .boolean) ∈ gp_ws := gp_in7 (i := 201) rfl rfl
theorem iw_7_202 : Cond.constantLong "GoldPlateModel" 422 (1000000) ∈ gp_ws := gp_in7 (i := 202) rfl rfl
theorem iw_7_203 : Cond.methodLink "GoldPlateLaw" 108 ⟨"GoldPlateModel", "places", "(II)I"⟩ ∈ gp_ws := gp_in7 (i := 203) rfl rfl
theorem iw_7_204 : Cond.instanceMethod ⟨"GoldPlateModel", "places", "(II)I"⟩ ∈ gp_ws := gp_in7 (i := 204) rfl rfl
theorem iw_7_205 : Cond.selects "GoldPlateModel" ⟨"GoldPlateModel", "places", "(II)I"⟩ ⟨"GoldPlateModel", "places", "(II)I"⟩ ∈ gp_ws := gp_in7 (i := 205) rfl rfl
theorem iw_7_206 : Cond.code ⟨"GoldPlateModel", "places", "(II)I"⟩ prog_14_method_73_code 9 (some .int) ∈ gp_ws := gp_in7 (i := 206) rfl rfl
theorem iw_7_207 : Cond.methodLink "GoldPlateModel" 427 ⟨"GoldPlateModel", "distance", "(II)I"⟩ ∈ gp_ws := gp_in7 (i := 207) rfl rfl
theorem iw_7_208 : Cond.static ⟨"GoldPlateModel", "distance", "(II)I"⟩ ∈ gp_ws := gp_in7 (i := 208) rfl rfl
theorem iw_7_209 : Cond.code ⟨"GoldPlateModel", "distance", "(II)I"⟩ prog_14_method_72_code 3 (some .int) ∈ gp_ws := gp_in7 (i := 209) rfl rfl
theorem iw_7_210 : Cond.methodLink "GoldPlateLaw" 112 ⟨"GoldPlateModel", "told", "(II)I"⟩ ∈ gp_ws := gp_in7 (i := 210) rfl rfl
theorem iw_7_211 : Cond.instanceMethod ⟨"GoldPlateModel", "told", "(II)I"⟩ ∈ gp_ws := gp_in7 (i := 211) rfl rfl
theorem iw_7_212 : Cond.selects "GoldPlateModel" ⟨"GoldPlateModel", "told", "(II)I"⟩ ⟨"GoldPlateModel", "told", "(II)I"⟩ ∈ gp_ws := gp_in7 (i := 212) rfl rfl
theorem iw_7_213 : Cond.code ⟨"GoldPlateModel", "told", "(II)I"⟩ prog_14_method_75_code 3 (some .int) ∈ gp_ws := gp_in7 (i := 213) rfl rfl
theorem iw_7_214 : Cond.constant "GoldPlateModel" 430 (65535) ∈ gp_ws := gp_in7 (i := 214) rfl rfl
theorem iw_7_215 : Cond.methodLink "GoldPlateModel" 431 ⟨"GoldPlateModel", "toldBy", "(III)I"⟩ ∈ gp_ws := gp_in7 (i := 215) rfl rfl
theorem iw_7_217 : Cond.instanceMethod ⟨"GoldPlateModel", "toldBy", "(III)I"⟩ ∈ gp_ws := gp_in7 (i := 217) rfl rfl
theorem iw_7_218 : Cond.code ⟨"GoldPlateModel", "toldBy", "(III)I"⟩ prog_14_method_74_code 7 (some .int) ∈ gp_ws := gp_in7 (i := 218) rfl rfl
theorem iw_7_219 : Cond.methodLink "GoldPlateLaw" 116 ⟨"GoldPlateModel", "best", "(III)I"⟩ ∈ gp_ws := gp_in7 (i := 219) rfl rfl
theorem iw_7_220 : Cond.instanceMethod ⟨"GoldPlateModel", "best", "(III)I"⟩ ∈ gp_ws := gp_in7 (i := 220) rfl rfl
theorem iw_7_221 : Cond.selects "GoldPlateModel" ⟨"GoldPlateModel", "best", "(III)I"⟩ ⟨"GoldPlateModel", "best", "(III)I"⟩ ∈ gp_ws := gp_in7 (i := 221) rfl rfl
theorem iw_7_222 : Cond.code ⟨"GoldPlateModel", "best", "(III)I"⟩ prog_14_method_78_code 10 (some .int) ∈ gp_ws := gp_in7 (i := 222) rfl rfl
theorem iw_7_223 : Cond.methodLink "GoldPlateModel" 437 ⟨"GoldPlateModel", "worth", "(IIZ)I"⟩ ∈ gp_ws := gp_in7 (i := 223) rfl rfl
theorem iw_7_225 : Cond.instanceMethod ⟨"GoldPlateModel", "worth", "(IIZ)I"⟩ ∈ gp_ws := gp_in7 (i := 225) rfl rfl
theorem iw_7_226 : Cond.code ⟨"GoldPlateModel", "worth", "(IIZ)I"⟩ prog_14_method_77_code 7 (some .int) ∈ gp_ws := gp_in7 (i := 226) rfl rfl
theorem iw_7_227 : Cond.methodLink "GoldPlateModel" 434 ⟨"GoldPlateModel", "count", "(I)I"⟩ ∈ gp_ws := gp_in7 (i := 227) rfl rfl
theorem iw_7_228 : Cond.static ⟨"GoldPlateModel", "count", "(I)I"⟩ ∈ gp_ws := gp_in7 (i := 228) rfl rfl
theorem iw_7_229 : Cond.code ⟨"GoldPlateModel", "count", "(I)I"⟩ prog_14_method_3_code 3 (some .int) ∈ gp_ws := gp_in7 (i := 229) rfl rfl
theorem iw_7_230 : Cond.methodLink "GoldPlateModel" 441 ⟨"GoldPlateModel", "costOfSet", "(I)I"⟩ ∈ gp_ws := gp_in7 (i := 230) rfl rfl
theorem iw_7_232 : Cond.instanceMethod ⟨"GoldPlateModel", "costOfSet", "(I)I"⟩ ∈ gp_ws := gp_in7 (i := 232) rfl rfl
theorem iw_7_233 : Cond.code ⟨"GoldPlateModel", "costOfSet", "(I)I"⟩ prog_14_method_76_code 4 (some .int) ∈ gp_ws := gp_in7 (i := 233) rfl rfl
theorem iw_7_234 : Cond.methodLink "GoldPlateLaw" 120 ⟨"GoldPlateModel", "never", "(I)I"⟩ ∈ gp_ws := gp_in7 (i := 234) rfl rfl
theorem iw_7_235 : Cond.instanceMethod ⟨"GoldPlateModel", "never", "(I)I"⟩ ∈ gp_ws := gp_in7 (i := 235) rfl rfl
theorem iw_7_236 : Cond.selects "GoldPlateModel" ⟨"GoldPlateModel", "never", "(I)I"⟩ ⟨"GoldPlateModel", "never", "(I)I"⟩ ∈ gp_ws := gp_in7 (i := 236) rfl rfl
theorem iw_7_237 : Cond.code ⟨"GoldPlateModel", "never", "(I)I"⟩ prog_14_method_80_code 4 (some .int) ∈ gp_ws := gp_in7 (i := 237) rfl rfl
theorem iw_7_238 : Cond.methodLink "GoldPlateModel" 444 ⟨"GoldPlateModel", "allMarks", "()I"⟩ ∈ gp_ws := gp_in7 (i := 238) rfl rfl
theorem iw_8_0 : Cond.instanceMethod ⟨"GoldPlateModel", "allMarks", "()I"⟩ ∈ gp_ws := gp_in8 (i := 0) rfl rfl
theorem iw_8_1 : Cond.code ⟨"GoldPlateModel", "allMarks", "()I"⟩ prog_14_method_79_code 1 (some .int) ∈ gp_ws := gp_in8 (i := 1) rfl rfl
theorem iw_8_2 : Cond.methodLink "GoldPlateLaw" 124 ⟨"GoldPlateModel", "deeper", "(II)I"⟩ ∈ gp_ws := gp_in8 (i := 2) rfl rfl
theorem iw_8_3 : Cond.instanceMethod ⟨"GoldPlateModel", "deeper", "(II)I"⟩ ∈ gp_ws := gp_in8 (i := 3) rfl rfl
theorem iw_8_4 : Cond.selects "GoldPlateModel" ⟨"GoldPlateModel", "deeper", "(II)I"⟩ ⟨"GoldPlateModel", "deeper", "(II)I"⟩ ∈ gp_ws := gp_in8 (i := 4) rfl rfl
theorem iw_8_5 : Cond.code ⟨"GoldPlateModel", "deeper", "(II)I"⟩ prog_14_method_81_code 7 (some .int) ∈ gp_ws := gp_in8 (i := 5) rfl rfl
theorem iw_8_6 : Cond.methodLink "GoldPlateLaw" 128 ⟨"GoldPlateModel", "trial", "(I)I"⟩ ∈ gp_ws := gp_in8 (i := 6) rfl rfl
theorem iw_8_7 : Cond.instanceMethod ⟨"GoldPlateModel", "trial", "(I)I"⟩ ∈ gp_ws := gp_in8 (i := 7) rfl rfl
theorem iw_8_8 : Cond.selects "GoldPlateModel" ⟨"GoldPlateModel", "trial", "(I)I"⟩ ⟨"GoldPlateModel", "trial", "(I)I"⟩ ∈ gp_ws := gp_in8 (i := 8) rfl rfl
theorem iw_8_9 : Cond.code ⟨"GoldPlateModel", "trial", "(I)I"⟩ prog_14_method_82_code 4 (some .int) ∈ gp_ws := gp_in8 (i := 9) rfl rfl
theorem iw_8_10 : Cond.methodLink "GoldPlateLaw" 132 ⟨"GoldPlateModel", "agrees", "(I)I"⟩ ∈ gp_ws := gp_in8 (i := 10) rfl rfl
theorem iw_8_11 : Cond.instanceMethod ⟨"GoldPlateModel", "agrees", "(I)I"⟩ ∈ gp_ws := gp_in8 (i := 11) rfl rfl
theorem iw_8_12 : Cond.selects "GoldPlateModel" ⟨"GoldPlateModel", "agrees", "(I)I"⟩ ⟨"GoldPlateModel", "agrees", "(I)I"⟩ ∈ gp_ws := gp_in8 (i := 12) rfl rfl
theorem iw_8_13 : Cond.code ⟨"GoldPlateModel", "agrees", "(I)I"⟩ prog_14_method_84_code 5 (some .int) ∈ gp_ws := gp_in8 (i := 13) rfl rfl
theorem iw_8_14 : Cond.methodLink "GoldPlateModel" 450 ⟨"GoldPlateModel", "cheapestNow", "()I"⟩ ∈ gp_ws := gp_in8 (i := 14) rfl rfl
theorem iw_8_16 : Cond.instanceMethod ⟨"GoldPlateModel", "cheapestNow", "()I"⟩ ∈ gp_ws := gp_in8 (i := 16) rfl rfl
theorem iw_8_17 : Cond.code ⟨"GoldPlateModel", "cheapestNow", "()I"⟩ prog_14_method_83_code 3 (some .int) ∈ gp_ws := gp_in8 (i := 17) rfl rfl
theorem iw_8_18 : Cond.methodLink "GoldPlateLaw" 136 ⟨"GoldPlateModel", "ours", "(I)I"⟩ ∈ gp_ws := gp_in8 (i := 18) rfl rfl
theorem iw_8_19 : Cond.instanceMethod ⟨"GoldPlateModel", "ours", "(I)I"⟩ ∈ gp_ws := gp_in8 (i := 19) rfl rfl
theorem iw_8_20 : Cond.selects "GoldPlateModel" ⟨"GoldPlateModel", "ours", "(I)I"⟩ ⟨"GoldPlateModel", "ours", "(I)I"⟩ ∈ gp_ws := gp_in8 (i := 20) rfl rfl
theorem iw_8_21 : Cond.code ⟨"GoldPlateModel", "ours", "(I)I"⟩ prog_14_method_86_code 6 (some .int) ∈ gp_ws := gp_in8 (i := 21) rfl rfl
theorem iw_8_22 : Cond.methodLink "GoldPlateModel" 453 ⟨"GoldPlateModel", "isOfThis", "(I)Z"⟩ ∈ gp_ws := gp_in8 (i := 22) rfl rfl
theorem iw_8_24 : Cond.instanceMethod ⟨"GoldPlateModel", "isOfThis", "(I)Z"⟩ ∈ gp_ws := gp_in8 (i := 24) rfl rfl
theorem iw_8_25 : Cond.code ⟨"GoldPlateModel", "isOfThis", "(I)Z"⟩ prog_14_method_85_code 4 (some .boolean) ∈ gp_ws := gp_in8 (i := 25) rfl rfl
theorem iw_8_26 : Cond.methodLink "GoldPlateLaw" 140 ⟨"GoldPlateModel", "look", "(I)I"⟩ ∈ gp_ws := gp_in8 (i := 26) rfl rfl
theorem iw_8_27 : Cond.instanceMethod ⟨"GoldPlateModel", "look", "(I)I"⟩ ∈ gp_ws := gp_in8 (i := 27) rfl rfl
theorem iw_8_28 : Cond.selects "GoldPlateModel" ⟨"GoldPlateModel", "look", "(I)I"⟩ ⟨"GoldPlateModel", "look", "(I)I"⟩ ∈ gp_ws := gp_in8 (i := 28) rfl rfl
theorem iw_8_29 : Cond.code ⟨"GoldPlateModel", "look", "(I)I"⟩ prog_14_method_87_code 2 (some .int) ∈ gp_ws := gp_in8 (i := 29) rfl rfl
theorem iw_8_30 : Cond.fieldLink "java/lang/String" 9 "java/lang/String" "value" "[B" ∈ gp_ws := gp_in8 (i := 30) rfl rfl
theorem iw_8_31 : Cond.fieldLink "java/lang/String" 15 "java/lang/String" "coder" "B" ∈ gp_ws := gp_in8 (i := 31) rfl rfl
end
section
theorem ow_Br_init : gp_okp m_Br_init := ⟨by decide +kernel, iw_2_99, by decide, rfl, iw_1_9⟩
theorem ow_Br_append : gp_okp m_Br_append := ⟨by decide +kernel, iw_4_186, by decide, rfl, iw_1_9⟩
theorem ow_Br_foldsBy : gp_okp m_Br_foldsBy := ⟨by decide +kernel, iw_4_202, by decide, rfl, iw_1_9⟩
theorem ow_Br_edges : gp_okp m_Br_edges := ⟨by decide +kernel, iw_4_217, by decide, rfl, iw_1_9⟩
theorem ow_Br_placeOf : gp_okp m_Br_placeOf := ⟨by decide +kernel, iw_5_1, by decide, rfl, iw_1_9⟩
theorem ow_Br_agreements : gp_okp m_Br_agreements := ⟨by decide +kernel, iw_4_237, by decide, rfl, iw_1_9⟩
theorem ow_Br_isHalf : gp_okp m_Br_isHalf := ⟨by decide +kernel, iw_5_5, by decide, rfl, iw_1_9⟩
theorem ow_Br_heightFor : gp_okp m_Br_heightFor := ⟨by decide +kernel, iw_4_209, by decide, rfl, iw_1_9⟩
theorem ow_Ch_init : gp_okp m_Ch_init := ⟨by decide +kernel, iw_2_54, by decide, rfl, iw_1_8⟩
theorem ow_Ch_findBest : gp_okp m_Ch_findBest := ⟨by decide +kernel, iw_5_81, by decide, rfl, iw_1_8⟩
theorem ow_Ch_ableMarks : gp_okp m_Ch_ableMarks := ⟨by decide +kernel, iw_5_86, by decide, rfl, iw_1_8⟩
theorem ow_Ch_grow : gp_okp m_Ch_grow := ⟨by decide +kernel, iw_5_91, by decide, rfl, iw_1_8⟩
theorem ow_Ch_gains : gp_okp m_Ch_gains := ⟨by decide +kernel, iw_5_109, by decide, rfl, iw_1_8⟩
theorem ow_Ch_judge : gp_okp m_Ch_judge := ⟨by decide +kernel, iw_5_95, by decide, rfl, iw_1_8⟩
theorem ow_Ch_scoreOf : gp_okp m_Ch_scoreOf := ⟨by decide +kernel, iw_5_99, by decide, rfl, iw_1_8⟩
theorem ow_Mk_init : gp_okp m_Mk_init := ⟨by decide +kernel, iw_1_40, by decide, rfl, iw_1_3⟩
theorem ow_Mk_takenFor : gp_okp m_Mk_takenFor := ⟨by decide +kernel, iw_4_133, by decide, rfl, iw_1_3⟩
theorem ow_Mi_init : gp_okp m_Mi_init := ⟨by decide +kernel, iw_1_118, by decide, rfl, iw_1_4⟩
theorem ow_Mi_clear : gp_okp m_Mi_clear := ⟨by decide +kernel, iw_4_15, by decide, rfl, iw_1_4⟩
theorem ow_Mi_priceBy : gp_okp m_Mi_priceBy := ⟨by decide +kernel, iw_4_100, by decide, rfl, iw_1_4⟩
theorem ow_Mi_rankBy : gp_okp m_Mi_rankBy := ⟨by decide +kernel, iw_4_224, by decide, rfl, iw_1_4⟩
theorem ow_Pa_init : gp_okp m_Pa_init := ⟨by decide +kernel, iw_1_204, by decide, rfl, iw_1_6⟩
theorem ow_Pa_addBytes : gp_okp m_Pa_addBytes := ⟨by decide +kernel, iw_3_85, by decide, rfl, iw_1_6⟩
theorem ow_Pa_forget : gp_okp m_Pa_forget := ⟨by decide +kernel, iw_3_100, by decide, rfl, iw_1_6⟩
theorem ow_Pa_scan : gp_okp m_Pa_scan := ⟨by decide +kernel, iw_3_104, by decide, rfl, iw_1_6⟩
theorem ow_Pa_scanRun : gp_okp m_Pa_scanRun := ⟨by decide +kernel, iw_3_118, by decide, rfl, iw_1_6⟩
theorem ow_Pa_addToken : gp_okp m_Pa_addToken := ⟨by decide +kernel, iw_3_184, by decide, rfl, iw_1_6⟩
theorem ow_Pa_runEnd : gp_okp m_Pa_runEnd := ⟨by decide +kernel, iw_3_108, by decide, rfl, iw_1_6⟩
theorem ow_Pa_isLetter : gp_okp m_Pa_isLetter := ⟨by decide +kernel, iw_3_111, by decide, rfl, iw_1_6⟩
theorem ow_Pa_isDigit : gp_okp m_Pa_isDigit := ⟨by decide +kernel, iw_3_114, by decide, rfl, iw_1_6⟩
theorem ow_Pa_numberOf : gp_okp m_Pa_numberOf := ⟨by decide +kernel, iw_3_188, by decide, rfl, iw_1_6⟩
theorem ow_Pa_keyword : gp_okp m_Pa_keyword := ⟨by decide +kernel, iw_3_122, by decide, rfl, iw_1_6⟩
theorem ow_Pa_indexIn : gp_okp m_Pa_indexIn := ⟨by decide +kernel, iw_3_127, by decide, rfl, iw_1_6⟩
theorem ow_Pa_standsAt : gp_okp m_Pa_standsAt := ⟨by decide +kernel, iw_3_179, by decide, rfl, iw_1_6⟩
theorem ow_Pa_readsText : gp_okp m_Pa_readsText := ⟨by decide +kernel, iw_4_10, by decide, rfl, iw_1_6⟩
theorem ow_Pa_readLine : gp_okp m_Pa_readLine := ⟨by decide +kernel, iw_4_23, by decide, rfl, iw_1_6⟩
theorem ow_Pa_readNumber : gp_okp m_Pa_readNumber := ⟨by decide +kernel, iw_4_63, by decide, rfl, iw_1_6⟩
theorem ow_Pa_condition : gp_okp m_Pa_condition := ⟨by decide +kernel, iw_4_47, by decide, rfl, iw_1_6⟩
theorem ow_Pa_check : gp_okp m_Pa_check := ⟨by decide +kernel, iw_4_51, by decide, rfl, iw_1_6⟩
theorem ow_Pa_expectComparison : gp_okp m_Pa_expectComparison := ⟨by decide +kernel, iw_4_59, by decide, rfl, iw_1_6⟩
theorem ow_Pa_expression : gp_okp m_Pa_expression := ⟨by decide +kernel, iw_4_31, by decide, rfl, iw_1_6⟩
theorem ow_Pa_unit : gp_okp m_Pa_unit := ⟨by decide +kernel, iw_4_35, by decide, rfl, iw_1_6⟩
theorem ow_Pa_part : gp_okp m_Pa_part := ⟨by decide +kernel, iw_4_43, by decide, rfl, iw_1_6⟩
theorem ow_Pa_expect : gp_okp m_Pa_expect := ⟨by decide +kernel, iw_4_55, by decide, rfl, iw_1_6⟩
theorem ow_Pa_kind : gp_okp m_Pa_kind := ⟨by decide +kernel, iw_4_19, by decide, rfl, iw_1_6⟩
theorem ow_Pa_fail : gp_okp m_Pa_fail := ⟨by decide +kernel, iw_4_27, by decide, rfl, iw_1_6⟩
theorem ow_Pa_emit : gp_okp m_Pa_emit := ⟨by decide +kernel, iw_4_39, by decide, rfl, iw_1_6⟩
theorem ow_Pl_init : gp_okp m_Pl_init := ⟨by decide +kernel, iw_1_33, by decide, rfl, iw_1_2⟩
theorem ow_Pl_has : gp_okp m_Pl_has := ⟨by decide +kernel, iw_3_22, by decide, rfl, iw_1_2⟩
theorem ow_Pl_all : gp_okp m_Pl_all := ⟨by decide +kernel, iw_4_169, by decide, rfl, iw_1_2⟩
theorem ow_Pl_leftOf : gp_okp m_Pl_leftOf := ⟨by decide +kernel, iw_3_54, by decide, rfl, iw_1_2⟩
theorem ow_Pl_wearOf : gp_okp m_Pl_wearOf := ⟨by decide +kernel, iw_3_58, by decide, rfl, iw_1_2⟩
theorem ow_Pl_chainOf : gp_okp m_Pl_chainOf := ⟨by decide +kernel, iw_3_63, by decide, rfl, iw_1_2⟩
theorem ow_Pl_rootsOf : gp_okp m_Pl_rootsOf := ⟨by decide +kernel, iw_4_161, by decide, rfl, iw_1_2⟩
theorem ow_Pl_canSee : gp_okp m_Pl_canSee := ⟨by decide +kernel, iw_4_85, by decide, rfl, iw_1_2⟩
theorem ow_Pl_isAble : gp_okp m_Pl_isAble := ⟨by decide +kernel, iw_4_177, by decide, rfl, iw_1_2⟩
theorem ow_Pl_rights : gp_okp m_Pl_rights := ⟨by decide +kernel, iw_4_173, by decide, rfl, iw_1_2⟩
theorem ow_Pl_thingsOf : gp_okp m_Pl_thingsOf := ⟨by decide +kernel, iw_5_73, by decide, rfl, iw_1_2⟩
theorem ow_Se_init : gp_okp m_Se_init := ⟨by decide +kernel, iw_2_7, by decide, rfl, iw_1_7⟩
theorem ow_Se_setUp : gp_okp m_Se_setUp := ⟨by decide +kernel, iw_4_75, by decide, rfl, iw_1_7⟩
theorem ow_Se_takingsOf : gp_okp m_Se_takingsOf := ⟨by decide +kernel, iw_4_81, by decide, rfl, iw_1_7⟩
theorem ow_Se_priceAll : gp_okp m_Se_priceAll := ⟨by decide +kernel, iw_4_89, by decide, rfl, iw_1_7⟩
theorem ow_Se_setFloors : gp_okp m_Se_setFloors := ⟨by decide +kernel, iw_4_117, by decide, rfl, iw_1_7⟩
theorem ow_Se_countUpTo : gp_okp m_Se_countUpTo := ⟨by decide +kernel, iw_4_121, by decide, rfl, iw_1_7⟩
theorem ow_Se_findCheapest : gp_okp m_Se_findCheapest := ⟨by decide +kernel, iw_4_145, by decide, rfl, iw_1_7⟩
theorem ow_Se_walk : gp_okp m_Se_walk := ⟨by decide +kernel, iw_4_125, by decide, rfl, iw_1_7⟩
theorem ow_Se_arrive : gp_okp m_Se_arrive := ⟨by decide +kernel, iw_4_129, by decide, rfl, iw_1_7⟩
theorem ow_Se_cheapestTaking : gp_okp m_Se_cheapestTaking := ⟨by decide +kernel, iw_4_149, by decide, rfl, iw_1_7⟩
theorem ow_Se_cheapestPacked : gp_okp m_Se_cheapestPacked := ⟨by decide +kernel, iw_5_146, by decide, rfl, iw_1_7⟩
theorem ow_Se_partingPlace : gp_okp m_Se_partingPlace := ⟨by decide +kernel, iw_4_153, by decide, rfl, iw_1_7⟩
theorem ow_Se_fallsFrom : gp_okp m_Se_fallsFrom := ⟨by decide +kernel, iw_4_157, by decide, rfl, iw_1_7⟩
theorem ow_Sk_init : gp_okp m_Sk_init := ⟨by decide +kernel, iw_2_133, by decide, rfl, iw_1_11⟩
theorem ow_Sk_add : gp_okp m_Sk_add := ⟨by decide +kernel, iw_5_14, by decide, rfl, iw_1_11⟩
theorem ow_Sk_has : gp_okp m_Sk_has := ⟨by decide +kernel, iw_5_23, by decide, rfl, iw_1_11⟩
theorem ow_Sk_countYears : gp_okp m_Sk_countYears := ⟨by decide +kernel, iw_5_35, by decide, rfl, iw_1_11⟩
theorem ow_Sk_anyFound : gp_okp m_Sk_anyFound := ⟨by decide +kernel, iw_5_39, by decide, rfl, iw_1_11⟩
theorem ow_Sk_fitsAll : gp_okp m_Sk_fitsAll := ⟨by decide +kernel, iw_5_43, by decide, rfl, iw_1_11⟩
theorem ow_Sk_fits : gp_okp m_Sk_fits := ⟨by decide +kernel, iw_5_47, by decide, rfl, iw_1_11⟩
theorem ow_Sk_countPlaces : gp_okp m_Sk_countPlaces := ⟨by decide +kernel, iw_5_56, by decide, rfl, iw_1_11⟩
theorem ow_Sk_isPlace : gp_okp m_Sk_isPlace := ⟨by decide +kernel, iw_5_60, by decide, rfl, iw_1_11⟩
theorem ow_Sk_isAbout : gp_okp m_Sk_isAbout := ⟨by decide +kernel, iw_5_63, by decide, rfl, iw_1_11⟩
theorem ow_Su_init : gp_okp m_Su_init := ⟨by decide +kernel, iw_1_186, by decide, rfl, iw_1_5⟩
theorem ow_Su_clear : gp_okp m_Su_clear := ⟨by decide +kernel, iw_4_93, by decide, rfl, iw_1_5⟩
theorem ow_Su_work : gp_okp m_Su_work := ⟨by decide +kernel, iw_4_104, by decide, rfl, iw_1_5⟩
theorem ow_Su_step : gp_okp m_Su_step := ⟨by decide +kernel, iw_4_108, by decide, rfl, iw_1_5⟩
theorem ow_Su_join : gp_okp m_Su_join := ⟨by decide +kernel, iw_4_111, by decide, rfl, iw_1_5⟩
theorem ow_Tr_init : gp_okp m_Tr_init := ⟨by decide +kernel, iw_2_188, by decide, rfl, iw_1_12⟩
theorem ow_Tr_add : gp_okp m_Tr_add := ⟨by decide +kernel, iw_5_138, by decide, rfl, iw_1_12⟩
theorem ow_Tr_rightPlaces : gp_okp m_Tr_rightPlaces := ⟨by decide +kernel, iw_5_154, by decide, rfl, iw_1_12⟩
theorem ow_Wi_init : gp_okp m_Wi_init := ⟨by decide +kernel, iw_2_115, by decide, rfl, iw_1_10⟩
theorem ow_Wi_order : gp_okp m_Wi_order := ⟨by decide +kernel, iw_4_198, by decide, rfl, iw_1_10⟩
theorem ow_Wi_rankOf : gp_okp m_Wi_rankOf := ⟨by decide +kernel, iw_4_205, by decide, rfl, iw_1_10⟩
theorem ow_Wi_isPrime : gp_okp m_Wi_isPrime := ⟨by decide +kernel, iw_4_213, by decide, rfl, iw_1_10⟩
theorem ow_Wi_insert : gp_okp m_Wi_insert := ⟨by decide +kernel, iw_4_228, by decide, rfl, iw_1_10⟩
theorem ow_Gp_init : gp_okp m_Gp_init := ⟨by decide +kernel, iw_1_25, by decide, rfl, iw_1_1⟩
theorem ow_Gp_mark : gp_okp m_Gp_mark := ⟨by decide +kernel, iw_3_11, by decide, rfl, iw_1_1⟩
theorem ow_Gp_tell : gp_okp m_Gp_tell := ⟨by decide +kernel, iw_3_18, by decide, rfl, iw_1_1⟩
theorem ow_Gp_tellNeeds : gp_okp m_Gp_tellNeeds := ⟨by decide +kernel, iw_3_25, by decide, rfl, iw_1_1⟩
theorem ow_Gp_tellKnows : gp_okp m_Gp_tellKnows := ⟨by decide +kernel, iw_3_28, by decide, rfl, iw_1_1⟩
theorem ow_Gp_tellFirst : gp_okp m_Gp_tellFirst := ⟨by decide +kernel, iw_3_31, by decide, rfl, iw_1_1⟩
theorem ow_Gp_tellSecond : gp_okp m_Gp_tellSecond := ⟨by decide +kernel, iw_3_37, by decide, rfl, iw_1_1⟩
theorem ow_Gp_canBeOther : gp_okp m_Gp_canBeOther := ⟨by decide +kernel, iw_3_34, by decide, rfl, iw_1_1⟩
theorem ow_Gp_hard : gp_okp m_Gp_hard := ⟨by decide +kernel, iw_3_41, by decide, rfl, iw_1_1⟩
theorem ow_Gp_year : gp_okp m_Gp_year := ⟨by decide +kernel, iw_3_45, by decide, rfl, iw_1_1⟩
theorem ow_Gp_of : gp_okp m_Gp_of := ⟨by decide +kernel, iw_3_49, by decide, rfl, iw_1_1⟩
theorem ow_Gp_put : gp_okp m_Gp_put := ⟨by decide +kernel, iw_3_70, by decide, rfl, iw_1_1⟩
theorem ow_Gp_inMessage : gp_okp m_Gp_inMessage := ⟨by decide +kernel, iw_3_74, by decide, rfl, iw_1_1⟩
theorem ow_Gp_feed : gp_okp m_Gp_feed := ⟨by decide +kernel, iw_3_81, by decide, rfl, iw_1_1⟩
theorem ow_Gp_end : gp_okp m_Gp_end := ⟨by decide +kernel, iw_3_89, by decide, rfl, iw_1_1⟩
theorem ow_Gp_mind : gp_okp m_Gp_mind := ⟨by decide +kernel, iw_3_93, by decide, rfl, iw_1_1⟩
theorem ow_Gp_fault : gp_okp m_Gp_fault := ⟨by decide +kernel, iw_4_67, by decide, rfl, iw_1_1⟩
theorem ow_Gp_readings : gp_okp m_Gp_readings := ⟨by decide +kernel, iw_4_71, by decide, rfl, iw_1_1⟩
theorem ow_Gp_cheapest : gp_okp m_Gp_cheapest := ⟨by decide +kernel, iw_4_137, by decide, rfl, iw_1_1⟩
theorem ow_Gp_findCheapest : gp_okp m_Gp_findCheapest := ⟨by decide +kernel, iw_4_141, by decide, rfl, iw_1_1⟩
theorem ow_Gp_alone : gp_okp m_Gp_alone := ⟨by decide +kernel, iw_4_165, by decide, rfl, iw_1_1⟩
theorem ow_Gp_bits : gp_okp m_Gp_bits := ⟨by decide +kernel, iw_4_182, by decide, rfl, iw_1_1⟩
theorem ow_Gp_grid : gp_okp m_Gp_grid := ⟨by decide +kernel, iw_4_190, by decide, rfl, iw_1_1⟩
theorem ow_Gp_widths : gp_okp m_Gp_widths := ⟨by decide +kernel, iw_4_194, by decide, rfl, iw_1_1⟩
theorem ow_Gp_laid : gp_okp m_Gp_laid := ⟨by decide +kernel, iw_4_232, by decide, rfl, iw_1_1⟩
theorem ow_Gp_beat : gp_okp m_Gp_beat := ⟨by decide +kernel, iw_5_9, by decide, rfl, iw_1_1⟩
theorem ow_Gp_found : gp_okp m_Gp_found := ⟨by decide +kernel, iw_5_18, by decide, rfl, iw_1_1⟩
theorem ow_Gp_far : gp_okp m_Gp_far := ⟨by decide +kernel, iw_5_27, by decide, rfl, iw_1_1⟩
theorem ow_Gp_years : gp_okp m_Gp_years := ⟨by decide +kernel, iw_5_31, by decide, rfl, iw_1_1⟩
theorem ow_Gp_places : gp_okp m_Gp_places := ⟨by decide +kernel, iw_5_52, by decide, rfl, iw_1_1⟩
theorem ow_Gp_told : gp_okp m_Gp_told := ⟨by decide +kernel, iw_5_68, by decide, rfl, iw_1_1⟩
theorem ow_Gp_best : gp_okp m_Gp_best := ⟨by decide +kernel, iw_5_77, by decide, rfl, iw_1_1⟩
theorem ow_Gp_never : gp_okp m_Gp_never := ⟨by decide +kernel, iw_5_113, by decide, rfl, iw_1_1⟩
theorem ow_Gp_deeper : gp_okp m_Gp_deeper := ⟨by decide +kernel, iw_5_117, by decide, rfl, iw_1_1⟩
theorem ow_Gp_countTold : gp_okp m_Gp_countTold := ⟨by decide +kernel, iw_5_121, by decide, rfl, iw_1_1⟩
theorem ow_Gp_trial : gp_okp m_Gp_trial := ⟨by decide +kernel, iw_5_126, by decide, rfl, iw_1_1⟩
theorem ow_Gp_othersAreThere : gp_okp m_Gp_othersAreThere := ⟨by decide +kernel, iw_5_130, by decide, rfl, iw_1_1⟩
theorem ow_Gp_agrees : gp_okp m_Gp_agrees := ⟨by decide +kernel, iw_5_142, by decide, rfl, iw_1_1⟩
theorem ow_Gp_ours : gp_okp m_Gp_ours := ⟨by decide +kernel, iw_5_150, by decide, rfl, iw_1_1⟩
theorem ow_Gp_marksAtPlaces : gp_okp m_Gp_marksAtPlaces := ⟨by decide +kernel, iw_5_162, by decide, rfl, iw_1_1⟩
theorem ow_Gp_look : gp_okp m_Gp_look := ⟨by decide +kernel, iw_5_166, by decide, rfl, iw_1_1⟩
theorem ow_Gp_within : gp_okp m_Gp_within := ⟨by decide +kernel, iw_3_14, by decide, rfl, iw_1_1⟩
theorem ow_Gp_isMind : gp_okp m_Gp_isMind := ⟨by decide +kernel, iw_3_96, by decide, rfl, iw_1_1⟩
theorem ow_Gp_markAt : gp_okp m_Gp_markAt := ⟨by decide +kernel, iw_3_77, by decide, rfl, iw_1_1⟩
theorem ow_Gp_takingAt : gp_okp m_Gp_takingAt := ⟨by decide +kernel, iw_5_133, by decide, rfl, iw_1_1⟩
theorem ow_Gp_placesTakenRight : gp_okp m_Gp_placesTakenRight := ⟨by decide +kernel, iw_5_157, by decide, rfl, iw_1_1⟩
theorem ow_Rf_init : gp_okp m_Rf_init := ⟨by decide +kernel, iw_5_171, by decide, rfl, iw_1_13⟩
theorem ow_Rf_isIn : gp_okp m_Rf_isIn := ⟨by decide +kernel, iw_6_150, by decide, rfl, iw_1_13⟩
theorem ow_Rf_count : gp_okp m_Rf_count := ⟨by decide +kernel, iw_7_229, by decide, rfl, iw_1_13⟩
theorem ow_Rf_isMark : gp_okp m_Rf_isMark := ⟨by decide +kernel, iw_6_158, by decide, rfl, iw_1_13⟩
theorem ow_Rf_mark : gp_okp m_Rf_mark := ⟨by decide +kernel, iw_6_147, by decide, rfl, iw_1_13⟩
theorem ow_Rf_tell : gp_okp m_Rf_tell := ⟨by decide +kernel, iw_6_154, by decide, rfl, iw_1_13⟩
theorem ow_Rf_hard : gp_okp m_Rf_hard := ⟨by decide +kernel, iw_6_162, by decide, rfl, iw_1_13⟩
theorem ow_Rf_year : gp_okp m_Rf_year := ⟨by decide +kernel, iw_6_166, by decide, rfl, iw_1_13⟩
theorem ow_Rf_depth : gp_okp m_Rf_depth := ⟨by decide +kernel, iw_6_183, by decide, rfl, iw_1_13⟩
theorem ow_Rf_left : gp_okp m_Rf_left := ⟨by decide +kernel, iw_6_179, by decide, rfl, iw_1_13⟩
theorem ow_Rf_isWorn : gp_okp m_Rf_isWorn := ⟨by decide +kernel, iw_6_187, by decide, rfl, iw_1_13⟩
theorem ow_Rf_chain : gp_okp m_Rf_chain := ⟨by decide +kernel, iw_6_175, by decide, rfl, iw_1_13⟩
theorem ow_Rf_of : gp_okp m_Rf_of := ⟨by decide +kernel, iw_6_170, by decide, rfl, iw_1_13⟩
theorem ow_Rf_put : gp_okp m_Rf_put := ⟨by decide +kernel, iw_6_191, by decide, rfl, iw_1_13⟩
theorem ow_Rf_feed : gp_okp m_Rf_feed := ⟨by decide +kernel, iw_6_195, by decide, rfl, iw_1_13⟩
theorem ow_Rf_end : gp_okp m_Rf_end := ⟨by decide +kernel, iw_6_199, by decide, rfl, iw_1_13⟩
theorem ow_Rf_see : gp_okp m_Rf_see := ⟨by decide +kernel, iw_6_215, by decide, rfl, iw_1_13⟩
theorem ow_Rf_isLetter : gp_okp m_Rf_isLetter := ⟨by decide +kernel, iw_6_218, by decide, rfl, iw_1_13⟩
theorem ow_Rf_isDigit : gp_okp m_Rf_isDigit := ⟨by decide +kernel, iw_7_17, by decide, rfl, iw_1_13⟩
theorem ow_Rf_is : gp_okp m_Rf_is := ⟨by decide +kernel, iw_6_227, by decide, rfl, iw_1_13⟩
theorem ow_Rf_name : gp_okp m_Rf_name := ⟨by decide +kernel, iw_7_1, by decide, rfl, iw_1_13⟩
theorem ow_Rf_word : gp_okp m_Rf_word := ⟨by decide +kernel, iw_6_222, by decide, rfl, iw_1_13⟩
theorem ow_Rf_next0 : gp_okp m_Rf_next0 := ⟨by decide +kernel, iw_6_211, by decide, rfl, iw_1_13⟩
theorem ow_Rf_bad : gp_okp m_Rf_bad := ⟨by decide +kernel, iw_7_25, by decide, rfl, iw_1_13⟩
theorem ow_Rf_need : gp_okp m_Rf_need := ⟨by decide +kernel, iw_7_69, by decide, rfl, iw_1_13⟩
theorem ow_Rf_number : gp_okp m_Rf_number := ⟨by decide +kernel, iw_7_29, by decide, rfl, iw_1_13⟩
theorem ow_Rf_lay : gp_okp m_Rf_lay := ⟨by decide +kernel, iw_7_49, by decide, rfl, iw_1_13⟩
theorem ow_Rf_opens : gp_okp m_Rf_opens := ⟨by decide +kernel, iw_7_65, by decide, rfl, iw_1_13⟩
theorem ow_Rf_sumUp : gp_okp m_Rf_sumUp := ⟨by decide +kernel, iw_7_37, by decide, rfl, iw_1_13⟩
theorem ow_Rf_product : gp_okp m_Rf_product := ⟨by decide +kernel, iw_7_41, by decide, rfl, iw_1_13⟩
theorem ow_Rf_unit : gp_okp m_Rf_unit := ⟨by decide +kernel, iw_7_45, by decide, rfl, iw_1_13⟩
theorem ow_Rf_any : gp_okp m_Rf_any := ⟨by decide +kernel, iw_7_53, by decide, rfl, iw_1_13⟩
theorem ow_Rf_every : gp_okp m_Rf_every := ⟨by decide +kernel, iw_7_57, by decide, rfl, iw_1_13⟩
theorem ow_Rf_one : gp_okp m_Rf_one := ⟨by decide +kernel, iw_7_61, by decide, rfl, iw_1_13⟩
theorem ow_Rf_aPrice : gp_okp m_Rf_aPrice := ⟨by decide +kernel, iw_7_33, by decide, rfl, iw_1_13⟩
theorem ow_Rf_aLine : gp_okp m_Rf_aLine := ⟨by decide +kernel, iw_7_21, by decide, rfl, iw_1_13⟩
theorem ow_Rf_takesMind : gp_okp m_Rf_takesMind := ⟨by decide +kernel, iw_7_73, by decide, rfl, iw_1_13⟩
theorem ow_Rf_isMind : gp_okp m_Rf_isMind := ⟨by decide +kernel, iw_6_207, by decide, rfl, iw_1_13⟩
theorem ow_Rf_mind : gp_okp m_Rf_mind := ⟨by decide +kernel, iw_6_203, by decide, rfl, iw_1_13⟩
theorem ow_Rf_fault : gp_okp m_Rf_fault := ⟨by decide +kernel, iw_7_77, by decide, rfl, iw_1_13⟩
theorem ow_Rf_both : gp_okp m_Rf_both := ⟨by decide +kernel, iw_7_96, by decide, rfl, iw_1_13⟩
theorem ow_Rf_comesTo : gp_okp m_Rf_comesTo := ⟨by decide +kernel, iw_7_93, by decide, rfl, iw_1_13⟩
theorem ow_Rf_priceNow : gp_okp m_Rf_priceNow := ⟨by decide +kernel, iw_7_89, by decide, rfl, iw_1_13⟩
theorem ow_Rf_canSee : gp_okp m_Rf_canSee := ⟨by decide +kernel, iw_7_108, by decide, rfl, iw_1_13⟩
theorem ow_Rf_thing : gp_okp m_Rf_thing := ⟨by decide +kernel, iw_7_116, by decide, rfl, iw_1_13⟩
theorem ow_Rf_laysPrices : gp_okp m_Rf_laysPrices := ⟨by decide +kernel, iw_7_85, by decide, rfl, iw_1_13⟩
theorem ow_Rf_canTake : gp_okp m_Rf_canTake := ⟨by decide +kernel, iw_7_104, by decide, rfl, iw_1_13⟩
theorem ow_Rf_isTwice : gp_okp m_Rf_isTwice := ⟨by decide +kernel, iw_7_112, by decide, rfl, iw_1_13⟩
theorem ow_Rf_goesOn : gp_okp m_Rf_goesOn := ⟨by decide +kernel, iw_7_100, by decide, rfl, iw_1_13⟩
theorem ow_Rf_readings : gp_okp m_Rf_readings := ⟨by decide +kernel, iw_7_81, by decide, rfl, iw_1_13⟩
theorem ow_Rf_seeks : gp_okp m_Rf_seeks := ⟨by decide +kernel, iw_7_124, by decide, rfl, iw_1_13⟩
theorem ow_Rf_allNeeds : gp_okp m_Rf_allNeeds := ⟨by decide +kernel, iw_7_128, by decide, rfl, iw_1_13⟩
theorem ow_Rf_cheapest : gp_okp m_Rf_cheapest := ⟨by decide +kernel, iw_7_120, by decide, rfl, iw_1_13⟩
theorem ow_Rf_isAlone : gp_okp m_Rf_isAlone := ⟨by decide +kernel, iw_7_136, by decide, rfl, iw_1_13⟩
theorem ow_Rf_alone : gp_okp m_Rf_alone := ⟨by decide +kernel, iw_7_132, by decide, rfl, iw_1_13⟩
theorem ow_Rf_bits : gp_okp m_Rf_bits := ⟨by decide +kernel, iw_7_140, by decide, rfl, iw_1_13⟩
theorem ow_Rf_grid : gp_okp m_Rf_grid := ⟨by decide +kernel, iw_7_144, by decide, rfl, iw_1_13⟩
theorem ow_Rf_isWidth : gp_okp m_Rf_isWidth := ⟨by decide +kernel, iw_7_156, by decide, rfl, iw_1_13⟩
theorem ow_Rf_laidAt : gp_okp m_Rf_laidAt := ⟨by decide +kernel, iw_7_171, by decide, rfl, iw_1_13⟩
theorem ow_Rf_isPrime : gp_okp m_Rf_isPrime := ⟨by decide +kernel, iw_7_163, by decide, rfl, iw_1_13⟩
theorem ow_Rf_edges : gp_okp m_Rf_edges := ⟨by decide +kernel, iw_7_167, by decide, rfl, iw_1_13⟩
theorem ow_Rf_triedAs : gp_okp m_Rf_triedAs := ⟨by decide +kernel, iw_7_160, by decide, rfl, iw_1_13⟩
theorem ow_Rf_findsWidths : gp_okp m_Rf_findsWidths := ⟨by decide +kernel, iw_7_152, by decide, rfl, iw_1_13⟩
theorem ow_Rf_widths : gp_okp m_Rf_widths := ⟨by decide +kernel, iw_7_148, by decide, rfl, iw_1_13⟩
theorem ow_Rf_laid : gp_okp m_Rf_laid := ⟨by decide +kernel, iw_7_175, by decide, rfl, iw_1_13⟩
theorem ow_Rf_isBeat : gp_okp m_Rf_isBeat := ⟨by decide +kernel, iw_7_188, by decide, rfl, iw_1_13⟩
theorem ow_Rf_beat : gp_okp m_Rf_beat := ⟨by decide +kernel, iw_7_179, by decide, rfl, iw_1_13⟩
theorem ow_Rf_found : gp_okp m_Rf_found := ⟨by decide +kernel, iw_7_184, by decide, rfl, iw_1_13⟩
theorem ow_Rf_far : gp_okp m_Rf_far := ⟨by decide +kernel, iw_7_193, by decide, rfl, iw_1_13⟩
theorem ow_Rf_isThen : gp_okp m_Rf_isThen := ⟨by decide +kernel, iw_7_201, by decide, rfl, iw_1_13⟩
theorem ow_Rf_years : gp_okp m_Rf_years := ⟨by decide +kernel, iw_7_197, by decide, rfl, iw_1_13⟩
theorem ow_Rf_distance : gp_okp m_Rf_distance := ⟨by decide +kernel, iw_7_209, by decide, rfl, iw_1_13⟩
theorem ow_Rf_places : gp_okp m_Rf_places := ⟨by decide +kernel, iw_7_206, by decide, rfl, iw_1_13⟩
theorem ow_Rf_toldBy : gp_okp m_Rf_toldBy := ⟨by decide +kernel, iw_7_218, by decide, rfl, iw_1_13⟩
theorem ow_Rf_told : gp_okp m_Rf_told := ⟨by decide +kernel, iw_7_213, by decide, rfl, iw_1_13⟩
theorem ow_Rf_costOfSet : gp_okp m_Rf_costOfSet := ⟨by decide +kernel, iw_7_233, by decide, rfl, iw_1_13⟩
theorem ow_Rf_worth : gp_okp m_Rf_worth := ⟨by decide +kernel, iw_7_226, by decide, rfl, iw_1_13⟩
theorem ow_Rf_best : gp_okp m_Rf_best := ⟨by decide +kernel, iw_7_222, by decide, rfl, iw_1_13⟩
theorem ow_Rf_allMarks : gp_okp m_Rf_allMarks := ⟨by decide +kernel, iw_8_1, by decide, rfl, iw_1_13⟩
theorem ow_Rf_never : gp_okp m_Rf_never := ⟨by decide +kernel, iw_7_237, by decide, rfl, iw_1_13⟩
theorem ow_Rf_deeper : gp_okp m_Rf_deeper := ⟨by decide +kernel, iw_8_5, by decide, rfl, iw_1_13⟩
theorem ow_Rf_trial : gp_okp m_Rf_trial := ⟨by decide +kernel, iw_8_9, by decide, rfl, iw_1_13⟩
theorem ow_Rf_cheapestNow : gp_okp m_Rf_cheapestNow := ⟨by decide +kernel, iw_8_17, by decide, rfl, iw_1_13⟩
theorem ow_Rf_agrees : gp_okp m_Rf_agrees := ⟨by decide +kernel, iw_8_13, by decide, rfl, iw_1_13⟩
theorem ow_Rf_isOfThis : gp_okp m_Rf_isOfThis := ⟨by decide +kernel, iw_8_25, by decide, rfl, iw_1_13⟩
theorem ow_Rf_ours : gp_okp m_Rf_ours := ⟨by decide +kernel, iw_8_21, by decide, rfl, iw_1_13⟩
theorem ow_Rf_look : gp_okp m_Rf_look := ⟨by decide +kernel, iw_8_29, by decide, rfl, iw_1_13⟩
theorem ow_Ji_bitCount : gp_okp m_Ji_bitCount := ⟨by decide +kernel, iw_5_102, by decide, rfl, iw_1_20⟩
theorem ow_Js_length : gp_okp m_Js_length := ⟨by decide +kernel, iw_3_131, by decide, rfl, iw_1_15⟩
theorem ow_Js_charAt : gp_okp m_Js_charAt := ⟨by decide +kernel, iw_3_141, by decide, rfl, iw_1_15⟩
theorem ow_Js_indexOf : gp_okp m_Js_indexOf := ⟨by decide +kernel, iw_3_193, by decide, rfl, iw_1_15⟩
theorem ow_Js_indexOf_d33 : gp_okp m_Js_indexOf_d33 := ⟨by decide +kernel, iw_3_197, by decide, rfl, iw_1_15⟩
theorem ow_Js_coder : gp_okp m_Js_coder := ⟨by decide +kernel, iw_3_135, by decide, rfl, iw_1_15⟩
theorem ow_Js_isLatin1 : gp_okp m_Js_isLatin1 := ⟨by decide +kernel, iw_3_145, by decide, rfl, iw_1_15⟩
theorem ow_Js_checkIndex : gp_okp m_Js_checkIndex := ⟨by decide +kernel, iw_3_151, by decide, rfl, iw_1_15⟩
theorem ow_Js_checkBoundsBeginEnd : gp_okp m_Js_checkBoundsBeginEnd := ⟨by decide +kernel, iw_3_226, by decide, rfl, iw_1_15⟩
theorem ow_Jl_charAt : gp_okp m_Jl_charAt := ⟨by decide +kernel, iw_3_148, by decide, rfl, iw_1_16⟩
theorem ow_Jl_canEncode : gp_okp m_Jl_canEncode := ⟨by decide +kernel, iw_3_204, by decide, rfl, iw_1_16⟩
theorem ow_Jl_indexOf : gp_okp m_Jl_indexOf := ⟨by decide +kernel, iw_3_201, by decide, rfl, iw_1_16⟩
theorem ow_Jl_indexOfChar : gp_okp m_Jl_indexOfChar := ⟨by decide +kernel, iw_3_211, by decide, rfl, iw_1_16⟩
theorem ow_Jp_checkIndex : gp_okp m_Jp_checkIndex := ⟨by decide +kernel, iw_3_156, by decide, rfl, iw_1_17⟩
theorem ow_Jp_checkFromToIndex : gp_okp m_Jp_checkFromToIndex := ⟨by decide +kernel, iw_3_229, by decide, rfl, iw_1_17⟩
end
section
set_option maxRecDepth 100000 in
theorem gp_cin0 : ∀ w ∈ u_ws "GoldPlate$BitRow" gp_T0 2, w ∈ gp_ws := fun w h => gp_mm (l := [.laysFinal "GoldPlate$BitRow" "GoldPlate$BitRow" "bits" "[B", .lays "GoldPlate$BitRow" "GoldPlate$BitRow" "size" "I"]) (gp_mc1 iw_2_105 (gp_mc1 iw_2_107 gp_mc0)) w h
set_option maxRecDepth 100000 in
theorem gp_cins0 : Cond.instantiable "GoldPlate$BitRow" 2 ∈ gp_ws := iw_2_96
set_option maxRecDepth 100000 in
theorem gp_cini0 : Cond.initialized "GoldPlate$BitRow" ∈ gp_ws := iw_1_9
set_option maxRecDepth 100000 in
theorem gp_cin1 : ∀ w ∈ u_ws "GoldPlate$Chooser" gp_T1 12, w ∈ gp_ws := fun w h => gp_mm (l := [.laysFinal "GoldPlate$Chooser" "GoldPlate$Chooser" "plate" "LGoldPlate$Plate;", .laysFinal "GoldPlate$Chooser" "GoldPlate$Chooser" "minds" "[LGoldPlate$Mind;", .laysFinal "GoldPlate$Chooser" "GoldPlate$Chooser" "able" "[I", .laysFinal "GoldPlate$Chooser" "GoldPlate$Chooser" "rights" "[I", .laysFinal "GoldPlate$Chooser" "GoldPlate$Chooser" "things" "[I", .lays "GoldPlate$Chooser" "GoldPlate$Chooser" "asked" "I", .lays "GoldPlate$Chooser" "GoldPlate$Chooser" "size" "I", .lays "GoldPlate$Chooser" "GoldPlate$Chooser" "budget" "I", .lays "GoldPlate$Chooser" "GoldPlate$Chooser" "worst" "Z", .lays "GoldPlate$Chooser" "GoldPlate$Chooser" "bestCost" "I", .lays "GoldPlate$Chooser" "GoldPlate$Chooser" "bestSet" "I", .lays "GoldPlate$Chooser" "GoldPlate$Chooser" "bestScore" "I"]) (gp_mc1 iw_2_70 (gp_mc1 iw_2_72 (gp_mc1 iw_2_74 (gp_mc1 iw_2_76 (gp_mc1 iw_2_78 (gp_mc1 iw_2_80 (gp_mc1 iw_2_82 (gp_mc1 iw_2_84 (gp_mc1 iw_2_86 (gp_mc1 iw_2_88 (gp_mc1 iw_2_90 (gp_mc1 iw_2_92 gp_mc0)))))))))))) w h
set_option maxRecDepth 100000 in
theorem gp_cins1 : Cond.instantiable "GoldPlate$Chooser" 12 ∈ gp_ws := iw_2_51
set_option maxRecDepth 100000 in
theorem gp_cini1 : Cond.initialized "GoldPlate$Chooser" ∈ gp_ws := iw_1_8
set_option maxRecDepth 100000 in
theorem gp_cin2 : ∀ w ∈ u_ws "GoldPlate$Mark" gp_T2 9, w ∈ gp_ws := fun w h => gp_mm (l := [.lays "GoldPlate$Mark" "GoldPlate$Mark" "kind" "I", .lays "GoldPlate$Mark" "GoldPlate$Mark" "thing" "I", .lays "GoldPlate$Mark" "GoldPlate$Mark" "cost" "I", .lays "GoldPlate$Mark" "GoldPlate$Mark" "depth" "I", .lays "GoldPlate$Mark" "GoldPlate$Mark" "senses" "I", .lays "GoldPlate$Mark" "GoldPlate$Mark" "needs" "I", .lays "GoldPlate$Mark" "GoldPlate$Mark" "knows" "I", .lays "GoldPlate$Mark" "GoldPlate$Mark" "first" "I", .lays "GoldPlate$Mark" "GoldPlate$Mark" "second" "I"]) (gp_mc1 iw_1_69 (gp_mc1 iw_1_71 (gp_mc1 iw_1_73 (gp_mc1 iw_1_75 (gp_mc1 iw_1_77 (gp_mc1 iw_1_79 (gp_mc1 iw_1_81 (gp_mc1 iw_1_83 (gp_mc1 iw_1_85 gp_mc0))))))))) w h
set_option maxRecDepth 100000 in
theorem gp_cins2 : Cond.instantiable "GoldPlate$Mark" 9 ∈ gp_ws := iw_1_37
set_option maxRecDepth 100000 in
theorem gp_cini2 : Cond.initialized "GoldPlate$Mark" ∈ gp_ws := iw_1_3
set_option maxRecDepth 100000 in
theorem gp_cin3 : ∀ w ∈ u_ws "GoldPlate$Mind" gp_T3 14, w ∈ gp_ws := fun w h => gp_mm (l := [.laysFinal "GoldPlate$Mind" "GoldPlate$Mind" "code" "[I", .laysFinal "GoldPlate$Mind" "GoldPlate$Mind" "priceFrom" "[I", .laysFinal "GoldPlate$Mind" "GoldPlate$Mind" "priceWhen" "[I", .laysFinal "GoldPlate$Mind" "GoldPlate$Mind" "priceTo" "[I", .lays "GoldPlate$Mind" "GoldPlate$Mind" "senses" "I", .lays "GoldPlate$Mind" "GoldPlate$Mind" "knows" "I", .lays "GoldPlate$Mind" "GoldPlate$Mind" "hand" "I", .lays "GoldPlate$Mind" "GoldPlate$Mind" "lines" "I", .lays "GoldPlate$Mind" "GoldPlate$Mind" "prices" "I", .lays "GoldPlate$Mind" "GoldPlate$Mind" "codeSize" "I", .lays "GoldPlate$Mind" "GoldPlate$Mind" "tryFrom" "I", .lays "GoldPlate$Mind" "GoldPlate$Mind" "tryTo" "I", .lays "GoldPlate$Mind" "GoldPlate$Mind" "twinned" "Z", .lays "GoldPlate$Mind" "GoldPlate$Mind" "tries" "Z"]) (gp_mc1 iw_1_153 (gp_mc1 iw_1_155 (gp_mc1 iw_1_157 (gp_mc1 iw_1_159 (gp_mc1 iw_1_161 (gp_mc1 iw_1_163 (gp_mc1 iw_1_165 (gp_mc1 iw_1_167 (gp_mc1 iw_1_169 (gp_mc1 iw_1_171 (gp_mc1 iw_1_173 (gp_mc1 iw_1_175 (gp_mc1 iw_1_177 (gp_mc1 iw_1_179 gp_mc0)))))))))))))) w h
set_option maxRecDepth 100000 in
theorem gp_cins3 : Cond.instantiable "GoldPlate$Mind" 14 ∈ gp_ws := iw_1_115
set_option maxRecDepth 100000 in
theorem gp_cini3 : Cond.initialized "GoldPlate$Mind" ∈ gp_ws := iw_1_4
set_option maxRecDepth 100000 in
theorem gp_cin4 : ∀ w ∈ u_ws "GoldPlate$Parser" gp_T4 10, w ∈ gp_ws := fun w h => gp_mm (l := [.laysFinal "GoldPlate$Parser" "GoldPlate$Parser" "bytes" "[I", .laysFinal "GoldPlate$Parser" "GoldPlate$Parser" "kinds" "[I", .laysFinal "GoldPlate$Parser" "GoldPlate$Parser" "numbers" "[I", .laysFinal "GoldPlate$Parser" "GoldPlate$Parser" "spots" "[I", .lays "GoldPlate$Parser" "GoldPlate$Parser" "size" "I", .lays "GoldPlate$Parser" "GoldPlate$Parser" "tokens" "I", .lays "GoldPlate$Parser" "GoldPlate$Parser" "at" "I", .lays "GoldPlate$Parser" "GoldPlate$Parser" "fault" "I", .lays "GoldPlate$Parser" "GoldPlate$Parser" "faultPlace" "I", .lays "GoldPlate$Parser" "GoldPlate$Parser" "draft" "LGoldPlate$Mind;"]) (gp_mc1 iw_1_222 (gp_mc1 iw_1_224 (gp_mc1 iw_1_226 (gp_mc1 iw_1_228 (gp_mc1 iw_1_230 (gp_mc1 iw_1_232 (gp_mc1 iw_1_234 (gp_mc1 iw_1_236 (gp_mc1 iw_1_238 (gp_mc1 iw_2_0 gp_mc0)))))))))) w h
set_option maxRecDepth 100000 in
theorem gp_cins4 : Cond.instantiable "GoldPlate$Parser" 10 ∈ gp_ws := iw_1_201
set_option maxRecDepth 100000 in
theorem gp_cini4 : Cond.initialized "GoldPlate$Parser" ∈ gp_ws := iw_1_6
set_option maxRecDepth 100000 in
theorem gp_cin5 : ∀ w ∈ u_ws "GoldPlate$Plate" gp_T5 5, w ∈ gp_ws := fun w h => gp_mm (l := [.laysFinal "GoldPlate$Plate" "GoldPlate$Plate" "marks" "[LGoldPlate$Mark;", .laysFinal "GoldPlate$Plate" "GoldPlate$Plate" "hardness" "[I", .laysFinal "GoldPlate$Plate" "GoldPlate$Plate" "chains" "[I", .lays "GoldPlate$Plate" "GoldPlate$Plate" "size" "I", .lays "GoldPlate$Plate" "GoldPlate$Plate" "now" "I"]) (gp_mc1 iw_1_102 (gp_mc1 iw_1_104 (gp_mc1 iw_1_106 (gp_mc1 iw_1_108 (gp_mc1 iw_1_110 gp_mc0))))) w h
set_option maxRecDepth 100000 in
theorem gp_cins5 : Cond.instantiable "GoldPlate$Plate" 5 ∈ gp_ws := iw_1_30
set_option maxRecDepth 100000 in
theorem gp_cini5 : Cond.initialized "GoldPlate$Plate" ∈ gp_ws := iw_1_2
set_option maxRecDepth 100000 in
theorem gp_cin6 : ∀ w ∈ u_ws "GoldPlate$Search" gp_T6 13, w ∈ gp_ws := fun w h => gp_mm (l := [.laysFinal "GoldPlate$Search" "GoldPlate$Search" "plate" "LGoldPlate$Plate;", .laysFinal "GoldPlate$Search" "GoldPlate$Search" "sums" "LGoldPlate$Sums;", .laysFinal "GoldPlate$Search" "GoldPlate$Search" "marks" "[I", .laysFinal "GoldPlate$Search" "GoldPlate$Search" "allowed" "[I", .laysFinal "GoldPlate$Search" "GoldPlate$Search" "prices" "[I", .laysFinal "GoldPlate$Search" "GoldPlate$Search" "floors" "[I", .laysFinal "GoldPlate$Search" "GoldPlate$Search" "takings" "[I", .laysFinal "GoldPlate$Search" "GoldPlate$Search" "chosen" "[I", .lays "GoldPlate$Search" "GoldPlate$Search" "size" "I", .lays "GoldPlate$Search" "GoldPlate$Search" "limit" "I", .lays "GoldPlate$Search" "GoldPlate$Search" "count" "I", .lays "GoldPlate$Search" "GoldPlate$Search" "counting" "Z", .lays "GoldPlate$Search" "GoldPlate$Search" "cheapestPrice" "I"]) (gp_mc1 iw_2_23 (gp_mc1 iw_2_25 (gp_mc1 iw_2_27 (gp_mc1 iw_2_29 (gp_mc1 iw_2_31 (gp_mc1 iw_2_33 (gp_mc1 iw_2_35 (gp_mc1 iw_2_37 (gp_mc1 iw_2_39 (gp_mc1 iw_2_41 (gp_mc1 iw_2_43 (gp_mc1 iw_2_45 (gp_mc1 iw_2_47 gp_mc0))))))))))))) w h
set_option maxRecDepth 100000 in
theorem gp_cins6 : Cond.instantiable "GoldPlate$Search" 13 ∈ gp_ws := iw_2_4
set_option maxRecDepth 100000 in
theorem gp_cini6 : Cond.initialized "GoldPlate$Search" ∈ gp_ws := iw_1_7
set_option maxRecDepth 100000 in
theorem gp_cin7 : ∀ w ∈ u_ws "GoldPlate$Sky" gp_T7 13, w ∈ gp_ws := fun w h => gp_mm (l := [.laysFinal "GoldPlate$Sky" "GoldPlate$Sky" "periods" "[I", .laysFinal "GoldPlate$Sky" "GoldPlate$Sky" "slowers" "[I", .laysFinal "GoldPlate$Sky" "GoldPlate$Sky" "columns" "[I", .laysFinal "GoldPlate$Sky" "GoldPlate$Sky" "rows" "[I", .laysFinal "GoldPlate$Sky" "GoldPlate$Sky" "from" "[I", .laysFinal "GoldPlate$Sky" "GoldPlate$Sky" "to" "[I", .laysFinal "GoldPlate$Sky" "GoldPlate$Sky" "away" "[I", .lays "GoldPlate$Sky" "GoldPlate$Sky" "size" "I", .lays "GoldPlate$Sky" "GoldPlate$Sky" "yearCount" "I", .lays "GoldPlate$Sky" "GoldPlate$Sky" "firstYear" "I", .lays "GoldPlate$Sky" "GoldPlate$Sky" "lastYear" "I", .lays "GoldPlate$Sky" "GoldPlate$Sky" "placeCount" "I", .lays "GoldPlate$Sky" "GoldPlate$Sky" "firstPlace" "I"]) (gp_mc1 iw_2_157 (gp_mc1 iw_2_159 (gp_mc1 iw_2_161 (gp_mc1 iw_2_163 (gp_mc1 iw_2_165 (gp_mc1 iw_2_167 (gp_mc1 iw_2_169 (gp_mc1 iw_2_171 (gp_mc1 iw_2_173 (gp_mc1 iw_2_175 (gp_mc1 iw_2_177 (gp_mc1 iw_2_179 (gp_mc1 iw_2_181 gp_mc0))))))))))))) w h
set_option maxRecDepth 100000 in
theorem gp_cins7 : Cond.instantiable "GoldPlate$Sky" 13 ∈ gp_ws := iw_2_130
set_option maxRecDepth 100000 in
theorem gp_cini7 : Cond.initialized "GoldPlate$Sky" ∈ gp_ws := iw_1_11
set_option maxRecDepth 100000 in
theorem gp_cin8 : ∀ w ∈ u_ws "GoldPlate$Sums" gp_T8 3, w ∈ gp_ws := fun w h => gp_mm (l := [.laysFinal "GoldPlate$Sums" "GoldPlate$Sums" "values" "[I", .laysFinal "GoldPlate$Sums" "GoldPlate$Sums" "stack" "[I", .lays "GoldPlate$Sums" "GoldPlate$Sums" "top" "I"]) (gp_mc1 iw_1_193 (gp_mc1 iw_1_195 (gp_mc1 iw_1_197 gp_mc0))) w h
set_option maxRecDepth 100000 in
theorem gp_cins8 : Cond.instantiable "GoldPlate$Sums" 3 ∈ gp_ws := iw_1_183
set_option maxRecDepth 100000 in
theorem gp_cini8 : Cond.initialized "GoldPlate$Sums" ∈ gp_ws := iw_1_5
set_option maxRecDepth 100000 in
theorem gp_cin9 : ∀ w ∈ u_ws "GoldPlate$Trials" gp_T9 4, w ∈ gp_ws := fun w h => gp_mm (l := [.laysFinal "GoldPlate$Trials" "GoldPlate$Trials" "rows" "[J", .laysFinal "GoldPlate$Trials" "GoldPlate$Trials" "sizes" "[I", .laysFinal "GoldPlate$Trials" "GoldPlate$Trials" "takings" "[I", .lays "GoldPlate$Trials" "GoldPlate$Trials" "size" "I"]) (gp_mc1 iw_2_198 (gp_mc1 iw_2_200 (gp_mc1 iw_2_202 (gp_mc1 iw_2_204 gp_mc0)))) w h
set_option maxRecDepth 100000 in
theorem gp_cins9 : Cond.instantiable "GoldPlate$Trials" 4 ∈ gp_ws := iw_2_185
set_option maxRecDepth 100000 in
theorem gp_cini9 : Cond.initialized "GoldPlate$Trials" ∈ gp_ws := iw_1_12
set_option maxRecDepth 100000 in
theorem gp_cin10 : ∀ w ∈ u_ws "GoldPlate$Widths" gp_T10 3, w ∈ gp_ws := fun w h => gp_mm (l := [.laysFinal "GoldPlate$Widths" "GoldPlate$Widths" "widths" "[I", .laysFinal "GoldPlate$Widths" "GoldPlate$Widths" "ranks" "[I", .lays "GoldPlate$Widths" "GoldPlate$Widths" "count" "I"]) (gp_mc1 iw_2_122 (gp_mc1 iw_2_124 (gp_mc1 iw_2_126 gp_mc0))) w h
set_option maxRecDepth 100000 in
theorem gp_cins10 : Cond.instantiable "GoldPlate$Widths" 3 ∈ gp_ws := iw_2_112
set_option maxRecDepth 100000 in
theorem gp_cini10 : Cond.initialized "GoldPlate$Widths" ∈ gp_ws := iw_1_10
set_option maxRecDepth 100000 in
theorem gp_cin11 : ∀ w ∈ u_ws "GoldPlate" gp_T11 13, w ∈ gp_ws := fun w h => gp_mm (l := [.laysFinal "GoldPlate" "GoldPlate" "plate" "LGoldPlate$Plate;", .laysFinal "GoldPlate" "GoldPlate" "minds" "[LGoldPlate$Mind;", .laysFinal "GoldPlate" "GoldPlate" "parser" "LGoldPlate$Parser;", .laysFinal "GoldPlate" "GoldPlate" "sums" "LGoldPlate$Sums;", .laysFinal "GoldPlate" "GoldPlate" "search" "LGoldPlate$Search;", .laysFinal "GoldPlate" "GoldPlate" "chooser" "LGoldPlate$Chooser;", .laysFinal "GoldPlate" "GoldPlate" "row" "LGoldPlate$BitRow;", .laysFinal "GoldPlate" "GoldPlate" "picture" "LGoldPlate$BitRow;", .laysFinal "GoldPlate" "GoldPlate" "folds" "LGoldPlate$Widths;", .laysFinal "GoldPlate" "GoldPlate" "sky" "LGoldPlate$Sky;", .laysFinal "GoldPlate" "GoldPlate" "trials" "LGoldPlate$Trials;", .lays "GoldPlate" "GoldPlate" "message" "J", .lays "GoldPlate" "GoldPlate" "messageSize" "I"]) (gp_mc1 iw_2_221 (gp_mc1 iw_2_223 (gp_mc1 iw_2_225 (gp_mc1 iw_2_227 (gp_mc1 iw_2_229 (gp_mc1 iw_2_231 (gp_mc1 iw_2_233 (gp_mc1 iw_2_235 (gp_mc1 iw_2_237 (gp_mc1 iw_2_239 (gp_mc1 iw_3_1 (gp_mc1 iw_3_3 (gp_mc1 iw_3_5 gp_mc0))))))))))))) w h
set_option maxRecDepth 100000 in
theorem gp_cins11 : Cond.instantiable "GoldPlate" 13 ∈ gp_ws := iw_1_22
set_option maxRecDepth 100000 in
theorem gp_cini11 : Cond.initialized "GoldPlate" ∈ gp_ws := iw_1_1
set_option maxRecDepth 100000 in
theorem gp_cin12 : ∀ w ∈ u_ws "GoldPlateModel" gp_T12 70, w ∈ gp_ws := fun w h => gp_mm (l := [.lays "GoldPlateModel" "GoldPlateModel" "marks" "I", .lays "GoldPlateModel" "GoldPlateModel" "year" "I", .lays "GoldPlateModel" "GoldPlateModel" "messageLong" "I", .laysFinal "GoldPlateModel" "GoldPlateModel" "kindOf" "[I", .laysFinal "GoldPlateModel" "GoldPlateModel" "thingOf" "[I", .laysFinal "GoldPlateModel" "GoldPlateModel" "costOf" "[I", .laysFinal "GoldPlateModel" "GoldPlateModel" "depthOf" "[I", .laysFinal "GoldPlateModel" "GoldPlateModel" "sensesOf" "[I", .laysFinal "GoldPlateModel" "GoldPlateModel" "needsOf" "[I", .laysFinal "GoldPlateModel" "GoldPlateModel" "knowsOf" "[I", .laysFinal "GoldPlateModel" "GoldPlateModel" "other" "[I", .laysFinal "GoldPlateModel" "GoldPlateModel" "hard" "[I", .laysFinal "GoldPlateModel" "GoldPlateModel" "message" "[I", .lays "GoldPlateModel" "GoldPlateModel" "deeper" "I", .lays "GoldPlateModel" "GoldPlateModel" "when" "I", .laysFinal "GoldPlateModel" "GoldPlateModel" "chains" "[I", .laysFinal "GoldPlateModel" "GoldPlateModel" "sensesHad" "[I", .laysFinal "GoldPlateModel" "GoldPlateModel" "factsHad" "[I", .laysFinal "GoldPlateModel" "GoldPlateModel" "hand" "[I", .laysFinal "GoldPlateModel" "GoldPlateModel" "priceMany" "[I", .laysFinal "GoldPlateModel" "GoldPlateModel" "lineMany" "[I", .laysFinal "GoldPlateModel" "GoldPlateModel" "tryFrom" "[I", .laysFinal "GoldPlateModel" "GoldPlateModel" "tryTo" "[I", .laysFinal "GoldPlateModel" "GoldPlateModel" "priceFrom" "[I", .laysFinal "GoldPlateModel" "GoldPlateModel" "priceTo" "[I", .laysFinal "GoldPlateModel" "GoldPlateModel" "whenTo" "[I", .laysFinal "GoldPlateModel" "GoldPlateModel" "step" "[I", .laysFinal "GoldPlateModel" "GoldPlateModel" "tape" "[I", .laysFinal "GoldPlateModel" "GoldPlateModel" "pile" "[I", .laysFinal "GoldPlateModel" "GoldPlateModel" "facts" "[I", .laysFinal "GoldPlateModel" "GoldPlateModel" "hasTwin" "[Z", .laysFinal "GoldPlateModel" "GoldPlateModel" "hasTry" "[Z", .lays "GoldPlateModel" "GoldPlateModel" "steps" "I", .lays "GoldPlateModel" "GoldPlateModel" "taped" "I", .lays "GoldPlateModel" "GoldPlateModel" "at" "I", .lays "GoldPlateModel" "GoldPlateModel" "token" "I", .lays "GoldPlateModel" "GoldPlateModel" "tokenAt" "I", .lays "GoldPlateModel" "GoldPlateModel" "value" "I", .lays "GoldPlateModel" "GoldPlateModel" "wrong" "I", .lays "GoldPlateModel" "GoldPlateModel" "wrongAt" "I", .lays "GoldPlateModel" "GoldPlateModel" "faultKind" "I", .lays "GoldPlateModel" "GoldPlateModel" "depth" "I", .lays "GoldPlateModel" "GoldPlateModel" "faultPlace" "I", .laysFinal "GoldPlateModel" "GoldPlateModel" "priceOf" "[I", .laysFinal "GoldPlateModel" "GoldPlateModel" "taking" "[I", .laysFinal "GoldPlateModel" "GoldPlateModel" "cheapest" "[I", .lays "GoldPlateModel" "GoldPlateModel" "reader" "I", .lays "GoldPlateModel" "GoldPlateModel" "bound" "I", .lays "GoldPlateModel" "GoldPlateModel" "found" "I", .lays "GoldPlateModel" "GoldPlateModel" "leastPrice" "I", .lays "GoldPlateModel" "GoldPlateModel" "bitMany" "I", .lays "GoldPlateModel" "GoldPlateModel" "gridMany" "I", .laysFinal "GoldPlateModel" "GoldPlateModel" "bit" "[I", .laysFinal "GoldPlateModel" "GoldPlateModel" "gridBit" "[I", .laysFinal "GoldPlateModel" "GoldPlateModel" "widths" "[I", .laysFinal "GoldPlateModel" "GoldPlateModel" "tryOf" "[I", .lays "GoldPlateModel" "GoldPlateModel" "widthMany" "I", .lays "GoldPlateModel" "GoldPlateModel" "beats" "I", .laysFinal "GoldPlateModel" "GoldPlateModel" "period" "[I", .laysFinal "GoldPlateModel" "GoldPlateModel" "slower" "[I", .laysFinal "GoldPlateModel" "GoldPlateModel" "beatX" "[I", .laysFinal "GoldPlateModel" "GoldPlateModel" "beatY" "[I", .laysFinal "GoldPlateModel" "GoldPlateModel" "foundFrom" "[I", .laysFinal "GoldPlateModel" "GoldPlateModel" "foundTo" "[I", .laysFinal "GoldPlateModel" "GoldPlateModel" "farOf" "[I", .lays "GoldPlateModel" "GoldPlateModel" "trials" "I", .laysFinal "GoldPlateModel" "GoldPlateModel" "trialLong" "[I", .laysFinal "GoldPlateModel" "GoldPlateModel" "trialMark" "[I", .laysFinal "GoldPlateModel" "GoldPlateModel" "trialTaking" "[I", .laysFinal "GoldPlateModel" "GoldPlateModel" "kept" "[I"]) (gp_mc1 iw_6_2 (gp_mc1 iw_6_4 (gp_mc1 iw_6_6 (gp_mc1 iw_6_8 (gp_mc1 iw_6_10 (gp_mc1 iw_6_12 (gp_mc1 iw_6_14 (gp_mc1 iw_6_16 (gp_mc1 iw_6_18 (gp_mc1 iw_6_20 (gp_mc1 iw_6_22 (gp_mc1 iw_6_24 (gp_mc1 iw_6_26 (gp_mc1 iw_6_28 (gp_mc1 iw_6_30 (gp_mc1 iw_6_32 (gp_mc1 iw_6_34 (gp_mc1 iw_6_36 (gp_mc1 iw_6_38 (gp_mc1 iw_6_40 (gp_mc1 iw_6_42 (gp_mc1 iw_6_44 (gp_mc1 iw_6_46 (gp_mc1 iw_6_48 (gp_mc1 iw_6_50 (gp_mc1 iw_6_52 (gp_mc1 iw_6_54 (gp_mc1 iw_6_56 (gp_mc1 iw_6_58 (gp_mc1 iw_6_60 (gp_mc1 iw_6_62 (gp_mc1 iw_6_64 (gp_mc1 iw_6_66 (gp_mc1 iw_6_68 (gp_mc1 iw_6_70 (gp_mc1 iw_6_72 (gp_mc1 iw_6_74 (gp_mc1 iw_6_76 (gp_mc1 iw_6_78 (gp_mc1 iw_6_80 (gp_mc1 iw_6_82 (gp_mc1 iw_6_84 (gp_mc1 iw_6_86 (gp_mc1 iw_6_88 (gp_mc1 iw_6_90 (gp_mc1 iw_6_92 (gp_mc1 iw_6_94 (gp_mc1 iw_6_96 (gp_mc1 iw_6_98 (gp_mc1 iw_6_100 (gp_mc1 iw_6_102 (gp_mc1 iw_6_104 (gp_mc1 iw_6_106 (gp_mc1 iw_6_108 (gp_mc1 iw_6_110 (gp_mc1 iw_6_112 (gp_mc1 iw_6_114 (gp_mc1 iw_6_116 (gp_mc1 iw_6_118 (gp_mc1 iw_6_120 (gp_mc1 iw_6_122 (gp_mc1 iw_6_124 (gp_mc1 iw_6_126 (gp_mc1 iw_6_128 (gp_mc1 iw_6_130 (gp_mc1 iw_6_132 (gp_mc1 iw_6_134 (gp_mc1 iw_6_136 (gp_mc1 iw_6_138 (gp_mc1 iw_6_140 gp_mc0)))))))))))))))))))))))))))))))))))))))))))))))))))))))))))))))))))))) w h
set_option maxRecDepth 100000 in
theorem gp_cins12 : Cond.instantiable "GoldPlateModel" 70 ∈ gp_ws := iw_5_168
set_option maxRecDepth 100000 in
theorem gp_cini12 : Cond.initialized "GoldPlateModel" ∈ gp_ws := iw_1_13
set_option maxRecDepth 100000 in
theorem gp_fw0 : ∀ r ∈ gp_fl 0, gp_flp "GoldPlate$BitRow" r := List.forall_mem_cons.mpr ⟨⟨_, _, _, _, rfl, rfl, by decide, iw_2_101, rfl, rfl⟩, List.forall_mem_cons.mpr ⟨⟨_, _, _, _, rfl, rfl, by decide, iw_2_102, rfl, rfl⟩, fun _ h => absurd h List.not_mem_nil⟩⟩
set_option maxRecDepth 100000 in
theorem gp_fw1 : ∀ r ∈ gp_fl 1, gp_flp "GoldPlate$Chooser" r := List.forall_mem_cons.mpr ⟨⟨_, _, _, _, rfl, rfl, by decide, iw_2_58, rfl, rfl⟩, List.forall_mem_cons.mpr ⟨⟨_, _, _, _, rfl, rfl, by decide, iw_2_59, rfl, rfl⟩, List.forall_mem_cons.mpr ⟨⟨_, _, _, _, rfl, rfl, by decide, iw_2_60, rfl, rfl⟩, List.forall_mem_cons.mpr ⟨⟨_, _, _, _, rfl, rfl, by decide, iw_2_56, rfl, rfl⟩, List.forall_mem_cons.mpr ⟨⟨_, _, _, _, rfl, rfl, by decide, iw_2_57, rfl, rfl⟩, List.forall_mem_cons.mpr ⟨⟨_, _, _, _, rfl, rfl, by decide, iw_1_96, rfl, rfl⟩, List.forall_mem_cons.mpr ⟨⟨_, _, _, _, rfl, rfl, by decide, iw_2_62, rfl, rfl⟩, List.forall_mem_cons.mpr ⟨⟨_, _, _, _, rfl, rfl, by decide, iw_2_63, rfl, rfl⟩, List.forall_mem_cons.mpr ⟨⟨_, _, _, _, rfl, rfl, by decide, iw_2_64, rfl, rfl⟩, List.forall_mem_cons.mpr ⟨⟨_, _, _, _, rfl, rfl, by decide, iw_2_66, rfl, rfl⟩, List.forall_mem_cons.mpr ⟨⟨_, _, _, _, rfl, rfl, by decide, iw_2_65, rfl, rfl⟩, List.forall_mem_cons.mpr ⟨⟨_, _, _, _, rfl, rfl, by decide, iw_2_68, rfl, rfl⟩, List.forall_mem_cons.mpr ⟨⟨_, _, _, _, rfl, rfl, by decide, iw_2_61, rfl, rfl⟩, List.forall_mem_cons.mpr ⟨⟨_, _, _, _, rfl, rfl, by decide, iw_1_99, rfl, rfl⟩, List.forall_mem_cons.mpr ⟨⟨_, _, _, _, rfl, rfl, by decide, iw_1_92, rfl, rfl⟩, List.forall_mem_cons.mpr ⟨⟨_, _, _, _, rfl, rfl, by decide, iw_1_50, rfl, rfl⟩, List.forall_mem_cons.mpr ⟨⟨_, _, _, _, rfl, rfl, by decide, iw_1_58, rfl, rfl⟩, List.forall_mem_cons.mpr ⟨⟨_, _, _, _, rfl, rfl, by decide, iw_1_47, rfl, rfl⟩, fun _ h => absurd h List.not_mem_nil⟩⟩⟩⟩⟩⟩⟩⟩⟩⟩⟩⟩⟩⟩⟩⟩⟩⟩
set_option maxRecDepth 100000 in
theorem gp_fw2 : ∀ r ∈ gp_fl 2, gp_flp "GoldPlate$Mark" r := List.forall_mem_cons.mpr ⟨⟨_, _, _, _, rfl, rfl, by decide, iw_1_63, rfl, rfl⟩, List.forall_mem_cons.mpr ⟨⟨_, _, _, _, rfl, rfl, by decide, iw_1_66, rfl, rfl⟩, List.forall_mem_cons.mpr ⟨⟨_, _, _, _, rfl, rfl, by decide, iw_1_45, rfl, rfl⟩, fun _ h => absurd h List.not_mem_nil⟩⟩⟩
set_option maxRecDepth 100000 in
theorem gp_fw3 : ∀ r ∈ gp_fl 3, gp_flp "GoldPlate$Mind" r := List.forall_mem_cons.mpr ⟨⟨_, _, _, _, rfl, rfl, by decide, iw_1_120, rfl, rfl⟩, List.forall_mem_cons.mpr ⟨⟨_, _, _, _, rfl, rfl, by decide, iw_1_122, rfl, rfl⟩, List.forall_mem_cons.mpr ⟨⟨_, _, _, _, rfl, rfl, by decide, iw_1_124, rfl, rfl⟩, List.forall_mem_cons.mpr ⟨⟨_, _, _, _, rfl, rfl, by decide, iw_1_126, rfl, rfl⟩, List.forall_mem_cons.mpr ⟨⟨_, _, _, _, rfl, rfl, by decide, iw_1_128, rfl, rfl⟩, List.forall_mem_cons.mpr ⟨⟨_, _, _, _, rfl, rfl, by decide, iw_1_131, rfl, rfl⟩, List.forall_mem_cons.mpr ⟨⟨_, _, _, _, rfl, rfl, by decide, iw_1_135, rfl, rfl⟩, List.forall_mem_cons.mpr ⟨⟨_, _, _, _, rfl, rfl, by decide, iw_1_138, rfl, rfl⟩, List.forall_mem_cons.mpr ⟨⟨_, _, _, _, rfl, rfl, by decide, iw_1_141, rfl, rfl⟩, List.forall_mem_cons.mpr ⟨⟨_, _, _, _, rfl, rfl, by decide, iw_1_143, rfl, rfl⟩, List.forall_mem_cons.mpr ⟨⟨_, _, _, _, rfl, rfl, by decide, iw_1_145, rfl, rfl⟩, List.forall_mem_cons.mpr ⟨⟨_, _, _, _, rfl, rfl, by decide, iw_1_147, rfl, rfl⟩, List.forall_mem_cons.mpr ⟨⟨_, _, _, _, rfl, rfl, by decide, iw_1_149, rfl, rfl⟩, List.forall_mem_cons.mpr ⟨⟨_, _, _, _, rfl, rfl, by decide, iw_1_151, rfl, rfl⟩, fun _ h => absurd h List.not_mem_nil⟩⟩⟩⟩⟩⟩⟩⟩⟩⟩⟩⟩⟩⟩
set_option maxRecDepth 100000 in
theorem gp_fw4 : ∀ r ∈ gp_fl 4, gp_flp "GoldPlate$Parser" r := List.forall_mem_cons.mpr ⟨⟨_, _, _, _, rfl, rfl, by decide, iw_1_208, rfl, rfl⟩, List.forall_mem_cons.mpr ⟨⟨_, _, _, _, rfl, rfl, by decide, iw_1_209, rfl, rfl⟩, List.forall_mem_cons.mpr ⟨⟨_, _, _, _, rfl, rfl, by decide, iw_1_210, rfl, rfl⟩, List.forall_mem_cons.mpr ⟨⟨_, _, _, _, rfl, rfl, by decide, iw_1_211, rfl, rfl⟩, List.forall_mem_cons.mpr ⟨⟨_, _, _, _, rfl, rfl, by decide, iw_1_218, rfl, rfl⟩, List.forall_mem_cons.mpr ⟨⟨_, _, _, _, rfl, rfl, by decide, iw_1_220, rfl, rfl⟩, List.forall_mem_cons.mpr ⟨⟨_, _, _, _, rfl, rfl, by decide, iw_1_212, rfl, rfl⟩, List.forall_mem_cons.mpr ⟨⟨_, _, _, _, rfl, rfl, by decide, iw_1_216, rfl, rfl⟩, List.forall_mem_cons.mpr ⟨⟨_, _, _, _, rfl, rfl, by decide, iw_1_214, rfl, rfl⟩, List.forall_mem_cons.mpr ⟨⟨_, _, _, _, rfl, rfl, by decide, iw_1_215, rfl, rfl⟩, List.forall_mem_cons.mpr ⟨⟨_, _, _, _, rfl, rfl, by decide, iw_1_150, rfl, rfl⟩, List.forall_mem_cons.mpr ⟨⟨_, _, _, _, rfl, rfl, by decide, iw_1_152, rfl, rfl⟩, List.forall_mem_cons.mpr ⟨⟨_, _, _, _, rfl, rfl, by decide, iw_1_139, rfl, rfl⟩, List.forall_mem_cons.mpr ⟨⟨_, _, _, _, rfl, rfl, by decide, iw_1_142, rfl, rfl⟩, List.forall_mem_cons.mpr ⟨⟨_, _, _, _, rfl, rfl, by decide, iw_1_123, rfl, rfl⟩, List.forall_mem_cons.mpr ⟨⟨_, _, _, _, rfl, rfl, by decide, iw_1_144, rfl, rfl⟩, List.forall_mem_cons.mpr ⟨⟨_, _, _, _, rfl, rfl, by decide, iw_1_125, rfl, rfl⟩, List.forall_mem_cons.mpr ⟨⟨_, _, _, _, rfl, rfl, by decide, iw_1_127, rfl, rfl⟩, List.forall_mem_cons.mpr ⟨⟨_, _, _, _, rfl, rfl, by decide, iw_1_146, rfl, rfl⟩, List.forall_mem_cons.mpr ⟨⟨_, _, _, _, rfl, rfl, by decide, iw_1_148, rfl, rfl⟩, List.forall_mem_cons.mpr ⟨⟨_, _, _, _, rfl, rfl, by decide, iw_1_130, rfl, rfl⟩, List.forall_mem_cons.mpr ⟨⟨_, _, _, _, rfl, rfl, by decide, iw_1_134, rfl, rfl⟩, List.forall_mem_cons.mpr ⟨⟨_, _, _, _, rfl, rfl, by decide, iw_1_136, rfl, rfl⟩, List.forall_mem_cons.mpr ⟨⟨_, _, _, _, rfl, rfl, by decide, iw_1_121, rfl, rfl⟩, fun _ h => absurd h List.not_mem_nil⟩⟩⟩⟩⟩⟩⟩⟩⟩⟩⟩⟩⟩⟩⟩⟩⟩⟩⟩⟩⟩⟩⟩⟩
set_option maxRecDepth 100000 in
theorem gp_fw5 : ∀ r ∈ gp_fl 5, gp_flp "GoldPlate$Plate" r := List.forall_mem_cons.mpr ⟨⟨_, _, _, _, rfl, rfl, by decide, iw_1_89, rfl, rfl⟩, List.forall_mem_cons.mpr ⟨⟨_, _, _, _, rfl, rfl, by decide, iw_1_93, rfl, rfl⟩, List.forall_mem_cons.mpr ⟨⟨_, _, _, _, rfl, rfl, by decide, iw_1_95, rfl, rfl⟩, List.forall_mem_cons.mpr ⟨⟨_, _, _, _, rfl, rfl, by decide, iw_1_97, rfl, rfl⟩, List.forall_mem_cons.mpr ⟨⟨_, _, _, _, rfl, rfl, by decide, iw_1_53, rfl, rfl⟩, List.forall_mem_cons.mpr ⟨⟨_, _, _, _, rfl, rfl, by decide, iw_1_100, rfl, rfl⟩, List.forall_mem_cons.mpr ⟨⟨_, _, _, _, rfl, rfl, by decide, iw_1_43, rfl, rfl⟩, List.forall_mem_cons.mpr ⟨⟨_, _, _, _, rfl, rfl, by decide, iw_1_59, rfl, rfl⟩, List.forall_mem_cons.mpr ⟨⟨_, _, _, _, rfl, rfl, by decide, iw_1_55, rfl, rfl⟩, List.forall_mem_cons.mpr ⟨⟨_, _, _, _, rfl, rfl, by decide, iw_1_129, rfl, rfl⟩, List.forall_mem_cons.mpr ⟨⟨_, _, _, _, rfl, rfl, by decide, iw_1_62, rfl, rfl⟩, List.forall_mem_cons.mpr ⟨⟨_, _, _, _, rfl, rfl, by decide, iw_1_133, rfl, rfl⟩, List.forall_mem_cons.mpr ⟨⟨_, _, _, _, rfl, rfl, by decide, iw_1_48, rfl, rfl⟩, fun _ h => absurd h List.not_mem_nil⟩⟩⟩⟩⟩⟩⟩⟩⟩⟩⟩⟩⟩
set_option maxRecDepth 100000 in
theorem gp_fw6 : ∀ r ∈ gp_fl 6, gp_flp "GoldPlate$Search" r := List.forall_mem_cons.mpr ⟨⟨_, _, _, _, rfl, rfl, by decide, iw_2_11, rfl, rfl⟩, List.forall_mem_cons.mpr ⟨⟨_, _, _, _, rfl, rfl, by decide, iw_2_12, rfl, rfl⟩, List.forall_mem_cons.mpr ⟨⟨_, _, _, _, rfl, rfl, by decide, iw_2_13, rfl, rfl⟩, List.forall_mem_cons.mpr ⟨⟨_, _, _, _, rfl, rfl, by decide, iw_2_14, rfl, rfl⟩, List.forall_mem_cons.mpr ⟨⟨_, _, _, _, rfl, rfl, by decide, iw_2_15, rfl, rfl⟩, List.forall_mem_cons.mpr ⟨⟨_, _, _, _, rfl, rfl, by decide, iw_2_16, rfl, rfl⟩, List.forall_mem_cons.mpr ⟨⟨_, _, _, _, rfl, rfl, by decide, iw_2_9, rfl, rfl⟩, List.forall_mem_cons.mpr ⟨⟨_, _, _, _, rfl, rfl, by decide, iw_2_10, rfl, rfl⟩, List.forall_mem_cons.mpr ⟨⟨_, _, _, _, rfl, rfl, by decide, iw_2_17, rfl, rfl⟩, List.forall_mem_cons.mpr ⟨⟨_, _, _, _, rfl, rfl, by decide, iw_1_90, rfl, rfl⟩, List.forall_mem_cons.mpr ⟨⟨_, _, _, _, rfl, rfl, by decide, iw_1_60, rfl, rfl⟩, List.forall_mem_cons.mpr ⟨⟨_, _, _, _, rfl, rfl, by decide, iw_1_132, rfl, rfl⟩, List.forall_mem_cons.mpr ⟨⟨_, _, _, _, rfl, rfl, by decide, iw_1_56, rfl, rfl⟩, List.forall_mem_cons.mpr ⟨⟨_, _, _, _, rfl, rfl, by decide, iw_1_64, rfl, rfl⟩, List.forall_mem_cons.mpr ⟨⟨_, _, _, _, rfl, rfl, by decide, iw_1_67, rfl, rfl⟩, List.forall_mem_cons.mpr ⟨⟨_, _, _, _, rfl, rfl, by decide, iw_1_190, rfl, rfl⟩, List.forall_mem_cons.mpr ⟨⟨_, _, _, _, rfl, rfl, by decide, iw_1_44, rfl, rfl⟩, List.forall_mem_cons.mpr ⟨⟨_, _, _, _, rfl, rfl, by decide, iw_1_51, rfl, rfl⟩, List.forall_mem_cons.mpr ⟨⟨_, _, _, _, rfl, rfl, by decide, iw_2_20, rfl, rfl⟩, List.forall_mem_cons.mpr ⟨⟨_, _, _, _, rfl, rfl, by decide, iw_2_19, rfl, rfl⟩, List.forall_mem_cons.mpr ⟨⟨_, _, _, _, rfl, rfl, by decide, iw_2_18, rfl, rfl⟩, List.forall_mem_cons.mpr ⟨⟨_, _, _, _, rfl, rfl, by decide, iw_2_21, rfl, rfl⟩, fun _ h => absurd h List.not_mem_nil⟩⟩⟩⟩⟩⟩⟩⟩⟩⟩⟩⟩⟩⟩⟩⟩⟩⟩⟩⟩⟩⟩
set_option maxRecDepth 100000 in
theorem gp_fw7 : ∀ r ∈ gp_fl 7, gp_flp "GoldPlate$Sky" r := List.forall_mem_cons.mpr ⟨⟨_, _, _, _, rfl, rfl, by decide, iw_2_135, rfl, rfl⟩, List.forall_mem_cons.mpr ⟨⟨_, _, _, _, rfl, rfl, by decide, iw_2_136, rfl, rfl⟩, List.forall_mem_cons.mpr ⟨⟨_, _, _, _, rfl, rfl, by decide, iw_2_137, rfl, rfl⟩, List.forall_mem_cons.mpr ⟨⟨_, _, _, _, rfl, rfl, by decide, iw_2_138, rfl, rfl⟩, List.forall_mem_cons.mpr ⟨⟨_, _, _, _, rfl, rfl, by decide, iw_2_139, rfl, rfl⟩, List.forall_mem_cons.mpr ⟨⟨_, _, _, _, rfl, rfl, by decide, iw_2_141, rfl, rfl⟩, List.forall_mem_cons.mpr ⟨⟨_, _, _, _, rfl, rfl, by decide, iw_2_143, rfl, rfl⟩, List.forall_mem_cons.mpr ⟨⟨_, _, _, _, rfl, rfl, by decide, iw_2_145, rfl, rfl⟩, List.forall_mem_cons.mpr ⟨⟨_, _, _, _, rfl, rfl, by decide, iw_2_147, rfl, rfl⟩, List.forall_mem_cons.mpr ⟨⟨_, _, _, _, rfl, rfl, by decide, iw_2_149, rfl, rfl⟩, List.forall_mem_cons.mpr ⟨⟨_, _, _, _, rfl, rfl, by decide, iw_2_151, rfl, rfl⟩, List.forall_mem_cons.mpr ⟨⟨_, _, _, _, rfl, rfl, by decide, iw_2_153, rfl, rfl⟩, List.forall_mem_cons.mpr ⟨⟨_, _, _, _, rfl, rfl, by decide, iw_2_155, rfl, rfl⟩, fun _ h => absurd h List.not_mem_nil⟩⟩⟩⟩⟩⟩⟩⟩⟩⟩⟩⟩⟩
set_option maxRecDepth 100000 in
theorem gp_fw8 : ∀ r ∈ gp_fl 8, gp_flp "GoldPlate$Sums" r := List.forall_mem_cons.mpr ⟨⟨_, _, _, _, rfl, rfl, by decide, iw_1_188, rfl, rfl⟩, List.forall_mem_cons.mpr ⟨⟨_, _, _, _, rfl, rfl, by decide, iw_1_191, rfl, rfl⟩, List.forall_mem_cons.mpr ⟨⟨_, _, _, _, rfl, rfl, by decide, iw_1_192, rfl, rfl⟩, fun _ h => absurd h List.not_mem_nil⟩⟩⟩
set_option maxRecDepth 100000 in
theorem gp_fw9 : ∀ r ∈ gp_fl 9, gp_flp "GoldPlate$Trials" r := List.forall_mem_cons.mpr ⟨⟨_, _, _, _, rfl, rfl, by decide, iw_2_190, rfl, rfl⟩, List.forall_mem_cons.mpr ⟨⟨_, _, _, _, rfl, rfl, by decide, iw_2_192, rfl, rfl⟩, List.forall_mem_cons.mpr ⟨⟨_, _, _, _, rfl, rfl, by decide, iw_2_194, rfl, rfl⟩, List.forall_mem_cons.mpr ⟨⟨_, _, _, _, rfl, rfl, by decide, iw_2_196, rfl, rfl⟩, fun _ h => absurd h List.not_mem_nil⟩⟩⟩⟩
set_option maxRecDepth 100000 in
theorem gp_fw10 : ∀ r ∈ gp_fl 10, gp_flp "GoldPlate$Widths" r := List.forall_mem_cons.mpr ⟨⟨_, _, _, _, rfl, rfl, by decide, iw_2_117, rfl, rfl⟩, List.forall_mem_cons.mpr ⟨⟨_, _, _, _, rfl, rfl, by decide, iw_2_119, rfl, rfl⟩, List.forall_mem_cons.mpr ⟨⟨_, _, _, _, rfl, rfl, by decide, iw_2_120, rfl, rfl⟩, List.forall_mem_cons.mpr ⟨⟨_, _, _, _, rfl, rfl, by decide, iw_2_103, rfl, rfl⟩, List.forall_mem_cons.mpr ⟨⟨_, _, _, _, rfl, rfl, by decide, iw_1_189, rfl, rfl⟩, fun _ h => absurd h List.not_mem_nil⟩⟩⟩⟩⟩
set_option maxRecDepth 100000 in
theorem gp_fw11 : ∀ r ∈ gp_fl 11, gp_flp "GoldPlate" r := List.forall_mem_cons.mpr ⟨⟨_, _, _, _, rfl, rfl, by decide, iw_2_208, rfl, rfl⟩, List.forall_mem_cons.mpr ⟨⟨_, _, _, _, rfl, rfl, by decide, iw_2_209, rfl, rfl⟩, List.forall_mem_cons.mpr ⟨⟨_, _, _, _, rfl, rfl, by decide, iw_2_211, rfl, rfl⟩, List.forall_mem_cons.mpr ⟨⟨_, _, _, _, rfl, rfl, by decide, iw_2_210, rfl, rfl⟩, List.forall_mem_cons.mpr ⟨⟨_, _, _, _, rfl, rfl, by decide, iw_2_212, rfl, rfl⟩, List.forall_mem_cons.mpr ⟨⟨_, _, _, _, rfl, rfl, by decide, iw_2_213, rfl, rfl⟩, List.forall_mem_cons.mpr ⟨⟨_, _, _, _, rfl, rfl, by decide, iw_2_214, rfl, rfl⟩, List.forall_mem_cons.mpr ⟨⟨_, _, _, _, rfl, rfl, by decide, iw_2_215, rfl, rfl⟩, List.forall_mem_cons.mpr ⟨⟨_, _, _, _, rfl, rfl, by decide, iw_2_216, rfl, rfl⟩, List.forall_mem_cons.mpr ⟨⟨_, _, _, _, rfl, rfl, by decide, iw_2_217, rfl, rfl⟩, List.forall_mem_cons.mpr ⟨⟨_, _, _, _, rfl, rfl, by decide, iw_2_218, rfl, rfl⟩, List.forall_mem_cons.mpr ⟨⟨_, _, _, _, rfl, rfl, by decide, iw_1_98, rfl, rfl⟩, List.forall_mem_cons.mpr ⟨⟨_, _, _, _, rfl, rfl, by decide, iw_1_91, rfl, rfl⟩, List.forall_mem_cons.mpr ⟨⟨_, _, _, _, rfl, rfl, by decide, iw_1_42, rfl, rfl⟩, List.forall_mem_cons.mpr ⟨⟨_, _, _, _, rfl, rfl, by decide, iw_1_46, rfl, rfl⟩, List.forall_mem_cons.mpr ⟨⟨_, _, _, _, rfl, rfl, by decide, iw_1_49, rfl, rfl⟩, List.forall_mem_cons.mpr ⟨⟨_, _, _, _, rfl, rfl, by decide, iw_1_52, rfl, rfl⟩, List.forall_mem_cons.mpr ⟨⟨_, _, _, _, rfl, rfl, by decide, iw_1_54, rfl, rfl⟩, List.forall_mem_cons.mpr ⟨⟨_, _, _, _, rfl, rfl, by decide, iw_1_57, rfl, rfl⟩, List.forall_mem_cons.mpr ⟨⟨_, _, _, _, rfl, rfl, by decide, iw_1_61, rfl, rfl⟩, List.forall_mem_cons.mpr ⟨⟨_, _, _, _, rfl, rfl, by decide, iw_1_68, rfl, rfl⟩, List.forall_mem_cons.mpr ⟨⟨_, _, _, _, rfl, rfl, by decide, iw_1_65, rfl, rfl⟩, List.forall_mem_cons.mpr ⟨⟨_, _, _, _, rfl, rfl, by decide, iw_1_94, rfl, rfl⟩, List.forall_mem_cons.mpr ⟨⟨_, _, _, _, rfl, rfl, by decide, iw_1_101, rfl, rfl⟩, List.forall_mem_cons.mpr ⟨⟨_, _, _, _, rfl, rfl, by decide, iw_2_219, rfl, rfl⟩, List.forall_mem_cons.mpr ⟨⟨_, _, _, _, rfl, rfl, by decide, iw_2_220, rfl, rfl⟩, List.forall_mem_cons.mpr ⟨⟨_, _, _, _, rfl, rfl, by decide, iw_1_213, rfl, rfl⟩, List.forall_mem_cons.mpr ⟨⟨_, _, _, _, rfl, rfl, by decide, iw_1_221, rfl, rfl⟩, List.forall_mem_cons.mpr ⟨⟨_, _, _, _, rfl, rfl, by decide, iw_1_140, rfl, rfl⟩, List.forall_mem_cons.mpr ⟨⟨_, _, _, _, rfl, rfl, by decide, iw_1_217, rfl, rfl⟩, List.forall_mem_cons.mpr ⟨⟨_, _, _, _, rfl, rfl, by decide, iw_1_219, rfl, rfl⟩, List.forall_mem_cons.mpr ⟨⟨_, _, _, _, rfl, rfl, by decide, iw_2_22, rfl, rfl⟩, List.forall_mem_cons.mpr ⟨⟨_, _, _, _, rfl, rfl, by decide, iw_2_121, rfl, rfl⟩, List.forall_mem_cons.mpr ⟨⟨_, _, _, _, rfl, rfl, by decide, iw_2_118, rfl, rfl⟩, List.forall_mem_cons.mpr ⟨⟨_, _, _, _, rfl, rfl, by decide, iw_2_104, rfl, rfl⟩, List.forall_mem_cons.mpr ⟨⟨_, _, _, _, rfl, rfl, by decide, iw_1_137, rfl, rfl⟩, List.forall_mem_cons.mpr ⟨⟨_, _, _, _, rfl, rfl, by decide, iw_2_140, rfl, rfl⟩, List.forall_mem_cons.mpr ⟨⟨_, _, _, _, rfl, rfl, by decide, iw_2_142, rfl, rfl⟩, List.forall_mem_cons.mpr ⟨⟨_, _, _, _, rfl, rfl, by decide, iw_2_144, rfl, rfl⟩, List.forall_mem_cons.mpr ⟨⟨_, _, _, _, rfl, rfl, by decide, iw_2_148, rfl, rfl⟩, List.forall_mem_cons.mpr ⟨⟨_, _, _, _, rfl, rfl, by decide, iw_2_150, rfl, rfl⟩, List.forall_mem_cons.mpr ⟨⟨_, _, _, _, rfl, rfl, by decide, iw_2_152, rfl, rfl⟩, List.forall_mem_cons.mpr ⟨⟨_, _, _, _, rfl, rfl, by decide, iw_2_154, rfl, rfl⟩, List.forall_mem_cons.mpr ⟨⟨_, _, _, _, rfl, rfl, by decide, iw_2_156, rfl, rfl⟩, List.forall_mem_cons.mpr ⟨⟨_, _, _, _, rfl, rfl, by decide, iw_2_67, rfl, rfl⟩, List.forall_mem_cons.mpr ⟨⟨_, _, _, _, rfl, rfl, by decide, iw_2_69, rfl, rfl⟩, List.forall_mem_cons.mpr ⟨⟨_, _, _, _, rfl, rfl, by decide, iw_2_197, rfl, rfl⟩, List.forall_mem_cons.mpr ⟨⟨_, _, _, _, rfl, rfl, by decide, iw_2_191, rfl, rfl⟩, List.forall_mem_cons.mpr ⟨⟨_, _, _, _, rfl, rfl, by decide, iw_2_193, rfl, rfl⟩, List.forall_mem_cons.mpr ⟨⟨_, _, _, _, rfl, rfl, by decide, iw_2_195, rfl, rfl⟩, List.forall_mem_cons.mpr ⟨⟨_, _, _, _, rfl, rfl, by decide, iw_2_146, rfl, rfl⟩, fun _ h => absurd h List.not_mem_nil⟩⟩⟩⟩⟩⟩⟩⟩⟩⟩⟩⟩⟩⟩⟩⟩⟩⟩⟩⟩⟩⟩⟩⟩⟩⟩⟩⟩⟩⟩⟩⟩⟩⟩⟩⟩⟩⟩⟩⟩⟩⟩⟩⟩⟩⟩⟩⟩⟩⟩⟩
set_option maxRecDepth 100000 in
theorem gp_fw12 : ∀ r ∈ gp_fl 12, gp_flp "GoldPlateModel" r := List.forall_mem_cons.mpr ⟨⟨_, _, _, _, rfl, rfl, by decide, iw_5_176, rfl, rfl⟩, List.forall_mem_cons.mpr ⟨⟨_, _, _, _, rfl, rfl, by decide, iw_5_177, rfl, rfl⟩, List.forall_mem_cons.mpr ⟨⟨_, _, _, _, rfl, rfl, by decide, iw_5_178, rfl, rfl⟩, List.forall_mem_cons.mpr ⟨⟨_, _, _, _, rfl, rfl, by decide, iw_5_179, rfl, rfl⟩, List.forall_mem_cons.mpr ⟨⟨_, _, _, _, rfl, rfl, by decide, iw_5_180, rfl, rfl⟩, List.forall_mem_cons.mpr ⟨⟨_, _, _, _, rfl, rfl, by decide, iw_5_181, rfl, rfl⟩, List.forall_mem_cons.mpr ⟨⟨_, _, _, _, rfl, rfl, by decide, iw_5_182, rfl, rfl⟩, List.forall_mem_cons.mpr ⟨⟨_, _, _, _, rfl, rfl, by decide, iw_5_183, rfl, rfl⟩, List.forall_mem_cons.mpr ⟨⟨_, _, _, _, rfl, rfl, by decide, iw_5_184, rfl, rfl⟩, List.forall_mem_cons.mpr ⟨⟨_, _, _, _, rfl, rfl, by decide, iw_5_185, rfl, rfl⟩, List.forall_mem_cons.mpr ⟨⟨_, _, _, _, rfl, rfl, by decide, iw_5_186, rfl, rfl⟩, List.forall_mem_cons.mpr ⟨⟨_, _, _, _, rfl, rfl, by decide, iw_5_187, rfl, rfl⟩, List.forall_mem_cons.mpr ⟨⟨_, _, _, _, rfl, rfl, by decide, iw_5_188, rfl, rfl⟩, List.forall_mem_cons.mpr ⟨⟨_, _, _, _, rfl, rfl, by decide, iw_5_189, rfl, rfl⟩, List.forall_mem_cons.mpr ⟨⟨_, _, _, _, rfl, rfl, by decide, iw_5_190, rfl, rfl⟩, List.forall_mem_cons.mpr ⟨⟨_, _, _, _, rfl, rfl, by decide, iw_5_191, rfl, rfl⟩, List.forall_mem_cons.mpr ⟨⟨_, _, _, _, rfl, rfl, by decide, iw_5_192, rfl, rfl⟩, List.forall_mem_cons.mpr ⟨⟨_, _, _, _, rfl, rfl, by decide, iw_5_193, rfl, rfl⟩, List.forall_mem_cons.mpr ⟨⟨_, _, _, _, rfl, rfl, by decide, iw_5_194, rfl, rfl⟩, List.forall_mem_cons.mpr ⟨⟨_, _, _, _, rfl, rfl, by decide, iw_5_195, rfl, rfl⟩, List.forall_mem_cons.mpr ⟨⟨_, _, _, _, rfl, rfl, by decide, iw_5_196, rfl, rfl⟩, List.forall_mem_cons.mpr ⟨⟨_, _, _, _, rfl, rfl, by decide, iw_5_197, rfl, rfl⟩, List.forall_mem_cons.mpr ⟨⟨_, _, _, _, rfl, rfl, by decide, iw_5_198, rfl, rfl⟩, List.forall_mem_cons.mpr ⟨⟨_, _, _, _, rfl, rfl, by decide, iw_5_199, rfl, rfl⟩, List.forall_mem_cons.mpr ⟨⟨_, _, _, _, rfl, rfl, by decide, iw_5_200, rfl, rfl⟩, List.forall_mem_cons.mpr ⟨⟨_, _, _, _, rfl, rfl, by decide, iw_5_201, rfl, rfl⟩, List.forall_mem_cons.mpr ⟨⟨_, _, _, _, rfl, rfl, by decide, iw_5_202, rfl, rfl⟩, List.forall_mem_cons.mpr ⟨⟨_, _, _, _, rfl, rfl, by decide, iw_5_203, rfl, rfl⟩, List.forall_mem_cons.mpr ⟨⟨_, _, _, _, rfl, rfl, by decide, iw_5_214, rfl, rfl⟩, List.forall_mem_cons.mpr ⟨⟨_, _, _, _, rfl, rfl, by decide, iw_5_215, rfl, rfl⟩, List.forall_mem_cons.mpr ⟨⟨_, _, _, _, rfl, rfl, by decide, iw_5_216, rfl, rfl⟩, List.forall_mem_cons.mpr ⟨⟨_, _, _, _, rfl, rfl, by decide, iw_5_217, rfl, rfl⟩, List.forall_mem_cons.mpr ⟨⟨_, _, _, _, rfl, rfl, by decide, iw_5_224, rfl, rfl⟩, List.forall_mem_cons.mpr ⟨⟨_, _, _, _, rfl, rfl, by decide, iw_5_225, rfl, rfl⟩, List.forall_mem_cons.mpr ⟨⟨_, _, _, _, rfl, rfl, by decide, iw_5_226, rfl, rfl⟩, List.forall_mem_cons.mpr ⟨⟨_, _, _, _, rfl, rfl, by decide, iw_5_227, rfl, rfl⟩, List.forall_mem_cons.mpr ⟨⟨_, _, _, _, rfl, rfl, by decide, iw_5_230, rfl, rfl⟩, List.forall_mem_cons.mpr ⟨⟨_, _, _, _, rfl, rfl, by decide, iw_5_231, rfl, rfl⟩, List.forall_mem_cons.mpr ⟨⟨_, _, _, _, rfl, rfl, by decide, iw_5_232, rfl, rfl⟩, List.forall_mem_cons.mpr ⟨⟨_, _, _, _, rfl, rfl, by decide, iw_5_233, rfl, rfl⟩, List.forall_mem_cons.mpr ⟨⟨_, _, _, _, rfl, rfl, by decide, iw_5_234, rfl, rfl⟩, List.forall_mem_cons.mpr ⟨⟨_, _, _, _, rfl, rfl, by decide, iw_5_235, rfl, rfl⟩, List.forall_mem_cons.mpr ⟨⟨_, _, _, _, rfl, rfl, by decide, iw_5_236, rfl, rfl⟩, List.forall_mem_cons.mpr ⟨⟨_, _, _, _, rfl, rfl, by decide, iw_5_238, rfl, rfl⟩, List.forall_mem_cons.mpr ⟨⟨_, _, _, _, rfl, rfl, by decide, iw_5_239, rfl, rfl⟩, List.forall_mem_cons.mpr ⟨⟨_, _, _, _, rfl, rfl, by decide, iw_6_0, rfl, rfl⟩, List.forall_mem_cons.mpr ⟨⟨_, _, _, _, rfl, rfl, by decide, iw_6_1, rfl, rfl⟩, List.forall_mem_cons.mpr ⟨⟨_, _, _, _, rfl, rfl, by decide, iw_5_173, rfl, rfl⟩, List.forall_mem_cons.mpr ⟨⟨_, _, _, _, rfl, rfl, by decide, iw_5_174, rfl, rfl⟩, List.forall_mem_cons.mpr ⟨⟨_, _, _, _, rfl, rfl, by decide, iw_5_175, rfl, rfl⟩, List.forall_mem_cons.mpr ⟨⟨_, _, _, _, rfl, rfl, by decide, iw_5_205, rfl, rfl⟩, List.forall_mem_cons.mpr ⟨⟨_, _, _, _, rfl, rfl, by decide, iw_5_206, rfl, rfl⟩, List.forall_mem_cons.mpr ⟨⟨_, _, _, _, rfl, rfl, by decide, iw_5_208, rfl, rfl⟩, List.forall_mem_cons.mpr ⟨⟨_, _, _, _, rfl, rfl, by decide, iw_5_207, rfl, rfl⟩, List.forall_mem_cons.mpr ⟨⟨_, _, _, _, rfl, rfl, by decide, iw_5_209, rfl, rfl⟩, List.forall_mem_cons.mpr ⟨⟨_, _, _, _, rfl, rfl, by decide, iw_5_210, rfl, rfl⟩, List.forall_mem_cons.mpr ⟨⟨_, _, _, _, rfl, rfl, by decide, iw_5_211, rfl, rfl⟩, List.forall_mem_cons.mpr ⟨⟨_, _, _, _, rfl, rfl, by decide, iw_5_204, rfl, rfl⟩, List.forall_mem_cons.mpr ⟨⟨_, _, _, _, rfl, rfl, by decide, iw_5_213, rfl, rfl⟩, List.forall_mem_cons.mpr ⟨⟨_, _, _, _, rfl, rfl, by decide, iw_5_212, rfl, rfl⟩, List.forall_mem_cons.mpr ⟨⟨_, _, _, _, rfl, rfl, by decide, iw_5_218, rfl, rfl⟩, List.forall_mem_cons.mpr ⟨⟨_, _, _, _, rfl, rfl, by decide, iw_5_219, rfl, rfl⟩, List.forall_mem_cons.mpr ⟨⟨_, _, _, _, rfl, rfl, by decide, iw_5_220, rfl, rfl⟩, List.forall_mem_cons.mpr ⟨⟨_, _, _, _, rfl, rfl, by decide, iw_5_221, rfl, rfl⟩, List.forall_mem_cons.mpr ⟨⟨_, _, _, _, rfl, rfl, by decide, iw_5_222, rfl, rfl⟩, List.forall_mem_cons.mpr ⟨⟨_, _, _, _, rfl, rfl, by decide, iw_5_223, rfl, rfl⟩, List.forall_mem_cons.mpr ⟨⟨_, _, _, _, rfl, rfl, by decide, iw_5_228, rfl, rfl⟩, List.forall_mem_cons.mpr ⟨⟨_, _, _, _, rfl, rfl, by decide, iw_5_229, rfl, rfl⟩, List.forall_mem_cons.mpr ⟨⟨_, _, _, _, rfl, rfl, by decide, iw_5_237, rfl, rfl⟩, fun _ h => absurd h List.not_mem_nil⟩⟩⟩⟩⟩⟩⟩⟩⟩⟩⟩⟩⟩⟩⟩⟩⟩⟩⟩⟩⟩⟩⟩⟩⟩⟩⟩⟩⟩⟩⟩⟩⟩⟩⟩⟩⟩⟩⟩⟩⟩⟩⟩⟩⟩⟩⟩⟩⟩⟩⟩⟩⟩⟩⟩⟩⟩⟩⟩⟩⟩⟩⟩⟩⟩⟩⟩⟩⟩
set_option maxRecDepth 100000 in
theorem gp_mw0 : ∀ r ∈ gp_ml 0, gp_mlp "GoldPlate$BitRow" r := List.forall_mem_cons.mpr ⟨⟨ow_Br_heightFor, Or.inl ⟨rfl, iw_4_238, iw_4_207, iw_4_208⟩⟩, List.forall_mem_cons.mpr ⟨⟨ow_Br_placeOf, Or.inr (Or.inl ⟨rfl, iw_4_239, iw_5_0⟩)⟩, fun _ h => absurd h List.not_mem_nil⟩⟩
set_option maxRecDepth 100000 in
theorem gp_ow0 : ∀ r ∈ gp_ol 0, Cond.methodLink "GoldPlate$BitRow" r.1 ⟨"java/lang/Object", "<init>", "()V"⟩ ∈ gp_ws := List.forall_mem_cons.mpr ⟨iw_2_100, fun _ h => absurd h List.not_mem_nil⟩
set_option maxRecDepth 100000 in
theorem gp_mw1 : ∀ r ∈ gp_ml 1, gp_mlp "GoldPlate$Chooser" r := List.forall_mem_cons.mpr ⟨⟨ow_Ch_ableMarks, Or.inl ⟨rfl, iw_5_83, iw_5_85, iw_0_32⟩⟩, List.forall_mem_cons.mpr ⟨⟨ow_Ch_grow, Or.inl ⟨rfl, iw_5_88, iw_5_90, iw_0_33⟩⟩, List.forall_mem_cons.mpr ⟨⟨ow_Pl_isAble, Or.inl ⟨rfl, iw_5_87, iw_4_175, iw_4_176⟩⟩, List.forall_mem_cons.mpr ⟨⟨ow_Ch_judge, Or.inl ⟨rfl, iw_5_92, iw_5_94, iw_0_34⟩⟩, List.forall_mem_cons.mpr ⟨⟨ow_Ch_gains, Or.inl ⟨rfl, iw_5_106, iw_5_108, iw_0_36⟩⟩, List.forall_mem_cons.mpr ⟨⟨ow_Ch_scoreOf, Or.inl ⟨rfl, iw_5_96, iw_5_98, iw_0_35⟩⟩, List.forall_mem_cons.mpr ⟨⟨ow_Ji_bitCount, Or.inr (Or.inl ⟨rfl, iw_5_100, iw_5_101⟩)⟩, fun _ h => absurd h List.not_mem_nil⟩⟩⟩⟩⟩⟩⟩
set_option maxRecDepth 100000 in
theorem gp_xw1 : ∀ r ∈ gp_xl 1, gp_xlp "GoldPlate$Chooser" r := List.forall_mem_cons.mpr ⟨Or.inr (Or.inl ⟨rfl, iw_5_82⟩), fun _ h => absurd h List.not_mem_nil⟩
set_option maxRecDepth 100000 in
theorem gp_ow1 : ∀ r ∈ gp_ol 1, Cond.methodLink "GoldPlate$Chooser" r.1 ⟨"java/lang/Object", "<init>", "()V"⟩ ∈ gp_ws := List.forall_mem_cons.mpr ⟨iw_2_55, fun _ h => absurd h List.not_mem_nil⟩
set_option maxRecDepth 100000 in
theorem gp_ow2 : ∀ r ∈ gp_ol 2, Cond.methodLink "GoldPlate$Mark" r.1 ⟨"java/lang/Object", "<init>", "()V"⟩ ∈ gp_ws := List.forall_mem_cons.mpr ⟨iw_1_41, fun _ h => absurd h List.not_mem_nil⟩
set_option maxRecDepth 100000 in
theorem gp_mw3 : ∀ r ∈ gp_ml 3, gp_mlp "GoldPlate$Mind" r := List.forall_mem_cons.mpr ⟨⟨ow_Su_work, Or.inl ⟨rfl, iw_4_101, iw_4_102, iw_4_103⟩⟩, fun _ h => absurd h List.not_mem_nil⟩
set_option maxRecDepth 100000 in
theorem gp_xw3 : ∀ r ∈ gp_xl 3, gp_xlp "GoldPlate$Mind" r := List.forall_mem_cons.mpr ⟨Or.inr (Or.inl ⟨rfl, iw_4_112⟩), List.forall_mem_cons.mpr ⟨Or.inl ⟨rfl, iw_4_113⟩, fun _ h => absurd h List.not_mem_nil⟩⟩
set_option maxRecDepth 100000 in
theorem gp_ow3 : ∀ r ∈ gp_ol 3, Cond.methodLink "GoldPlate$Mind" r.1 ⟨"java/lang/Object", "<init>", "()V"⟩ ∈ gp_ws := List.forall_mem_cons.mpr ⟨iw_1_119, fun _ h => absurd h List.not_mem_nil⟩
set_option maxRecDepth 100000 in
theorem gp_mw4 : ∀ r ∈ gp_ml 4, gp_mlp "GoldPlate$Parser" r := List.forall_mem_cons.mpr ⟨⟨ow_Pa_runEnd, Or.inl ⟨rfl, iw_3_105, iw_3_107, iw_0_1⟩⟩, List.forall_mem_cons.mpr ⟨⟨ow_Pa_scanRun, Or.inl ⟨rfl, iw_3_115, iw_3_117, iw_0_2⟩⟩, List.forall_mem_cons.mpr ⟨⟨ow_Pa_addToken, Or.inl ⟨rfl, iw_3_181, iw_3_183, iw_0_6⟩⟩, List.forall_mem_cons.mpr ⟨⟨ow_Pa_isLetter, Or.inr (Or.inl ⟨rfl, iw_3_109, iw_3_110⟩)⟩, List.forall_mem_cons.mpr ⟨⟨ow_Pa_keyword, Or.inl ⟨rfl, iw_3_119, iw_3_121, iw_0_3⟩⟩, List.forall_mem_cons.mpr ⟨⟨ow_Pa_isDigit, Or.inr (Or.inl ⟨rfl, iw_3_112, iw_3_113⟩)⟩, List.forall_mem_cons.mpr ⟨⟨ow_Pa_numberOf, Or.inl ⟨rfl, iw_3_185, iw_3_187, iw_0_7⟩⟩, List.forall_mem_cons.mpr ⟨⟨ow_Js_indexOf, Or.inl ⟨rfl, iw_3_190, iw_3_191, iw_3_192⟩⟩, List.forall_mem_cons.mpr ⟨⟨ow_Pa_indexIn, Or.inl ⟨rfl, iw_3_124, iw_3_126, iw_0_4⟩⟩, List.forall_mem_cons.mpr ⟨⟨ow_Js_length, Or.inl ⟨rfl, iw_3_128, iw_3_129, iw_3_130⟩⟩, List.forall_mem_cons.mpr ⟨⟨ow_Js_charAt, Or.inl ⟨rfl, iw_3_138, iw_3_139, iw_3_140⟩⟩, List.forall_mem_cons.mpr ⟨⟨ow_Pa_standsAt, Or.inl ⟨rfl, iw_3_176, iw_3_178, iw_0_5⟩⟩, List.forall_mem_cons.mpr ⟨⟨ow_Pa_forget, Or.inl ⟨rfl, iw_4_11, iw_3_98, iw_3_99⟩⟩, List.forall_mem_cons.mpr ⟨⟨ow_Mi_clear, Or.inl ⟨rfl, iw_4_12, iw_4_13, iw_4_14⟩⟩, List.forall_mem_cons.mpr ⟨⟨ow_Pa_kind, Or.inl ⟨rfl, iw_4_16, iw_4_18, iw_0_8⟩⟩, List.forall_mem_cons.mpr ⟨⟨ow_Pa_readLine, Or.inl ⟨rfl, iw_4_20, iw_4_22, iw_0_9⟩⟩, List.forall_mem_cons.mpr ⟨⟨ow_Pa_fail, Or.inl ⟨rfl, iw_4_24, iw_4_26, iw_0_10⟩⟩, List.forall_mem_cons.mpr ⟨⟨ow_Pa_expression, Or.inl ⟨rfl, iw_4_28, iw_4_30, iw_0_11⟩⟩, List.forall_mem_cons.mpr ⟨⟨ow_Pa_condition, Or.inl ⟨rfl, iw_4_44, iw_4_46, iw_0_15⟩⟩, List.forall_mem_cons.mpr ⟨⟨ow_Pa_readNumber, Or.inl ⟨rfl, iw_4_60, iw_4_62, iw_0_19⟩⟩, List.forall_mem_cons.mpr ⟨⟨ow_Pa_expect, Or.inl ⟨rfl, iw_4_52, iw_4_54, iw_0_17⟩⟩, List.forall_mem_cons.mpr ⟨⟨ow_Pa_check, Or.inl ⟨rfl, iw_4_48, iw_4_50, iw_0_16⟩⟩, List.forall_mem_cons.mpr ⟨⟨ow_Pa_emit, Or.inl ⟨rfl, iw_4_36, iw_4_38, iw_0_13⟩⟩, List.forall_mem_cons.mpr ⟨⟨ow_Pa_expectComparison, Or.inl ⟨rfl, iw_4_56, iw_4_58, iw_0_18⟩⟩, List.forall_mem_cons.mpr ⟨⟨ow_Pa_unit, Or.inl ⟨rfl, iw_4_32, iw_4_34, iw_0_12⟩⟩, List.forall_mem_cons.mpr ⟨⟨ow_Pa_part, Or.inl ⟨rfl, iw_4_40, iw_4_42, iw_0_14⟩⟩, List.forall_mem_cons.mpr ⟨⟨ow_Mi_init, Or.inr (Or.inr (Or.inr (Or.inr (Or.inr ⟨rfl, (List.mem_of_getElem? (i := 7) rfl), iw_1_117, rfl, rfl⟩))))⟩, fun _ h => absurd h List.not_mem_nil⟩⟩⟩⟩⟩⟩⟩⟩⟩⟩⟩⟩⟩⟩⟩⟩⟩⟩⟩⟩⟩⟩⟩⟩⟩⟩⟩
set_option maxRecDepth 100000 in
theorem gp_ow4 : ∀ r ∈ gp_ol 4, Cond.methodLink "GoldPlate$Parser" r.1 ⟨"java/lang/Object", "<init>", "()V"⟩ ∈ gp_ws := List.forall_mem_cons.mpr ⟨iw_1_205, fun _ h => absurd h List.not_mem_nil⟩
set_option maxRecDepth 100000 in
theorem gp_nw4 : ∀ r ∈ gp_nl 4, ∃ q, gp_cl[r.2]? = some q ∧ Cond.classLink "GoldPlate$Parser" r.1 q.1 ∈ gp_ws := List.forall_mem_cons.mpr ⟨⟨_, rfl, iw_1_206⟩, fun _ h => absurd h List.not_mem_nil⟩
set_option maxRecDepth 100000 in
theorem gp_aw4 : ∀ r ∈ gp_al 4, ∃ q, gp_cl[r.2 - 2]? = some q ∧ (r.2 = 4 ∨ r.2 = 5) ∧ Cond.classLink "GoldPlate$Parser" r.1 q.1 ∈ gp_ws := List.forall_mem_cons.mpr ⟨⟨_, rfl, by decide, iw_1_206⟩, fun _ h => absurd h List.not_mem_nil⟩
set_option maxRecDepth 100000 in
theorem gp_mw5 : ∀ r ∈ gp_ml 5, gp_mlp "GoldPlate$Plate" r := List.forall_mem_cons.mpr ⟨⟨ow_Pl_leftOf, Or.inl ⟨rfl, iw_3_59, iw_3_52, iw_3_53⟩⟩, List.forall_mem_cons.mpr ⟨⟨ow_Pl_isAble, Or.inl ⟨rfl, iw_4_174, iw_4_175, iw_4_176⟩⟩, List.forall_mem_cons.mpr ⟨⟨ow_Mk_init, Or.inr (Or.inr (Or.inr (Or.inr (Or.inr ⟨rfl, (List.mem_of_getElem? (i := 8) rfl), iw_1_39, rfl, rfl⟩))))⟩, fun _ h => absurd h List.not_mem_nil⟩⟩⟩
set_option maxRecDepth 100000 in
theorem gp_xw5 : ∀ r ∈ gp_xl 5, gp_xlp "GoldPlate$Plate" r := List.forall_mem_cons.mpr ⟨Or.inl ⟨rfl, iw_3_64⟩, List.forall_mem_cons.mpr ⟨Or.inr (Or.inl ⟨rfl, iw_4_178⟩), fun _ h => absurd h List.not_mem_nil⟩⟩
set_option maxRecDepth 100000 in
theorem gp_ow5 : ∀ r ∈ gp_ol 5, Cond.methodLink "GoldPlate$Plate" r.1 ⟨"java/lang/Object", "<init>", "()V"⟩ ∈ gp_ws := List.forall_mem_cons.mpr ⟨iw_1_34, fun _ h => absurd h List.not_mem_nil⟩
set_option maxRecDepth 100000 in
theorem gp_nw5 : ∀ r ∈ gp_nl 5, ∃ q, gp_cl[r.2]? = some q ∧ Cond.classLink "GoldPlate$Plate" r.1 q.1 ∈ gp_ws := List.forall_mem_cons.mpr ⟨⟨_, rfl, iw_1_35⟩, fun _ h => absurd h List.not_mem_nil⟩
set_option maxRecDepth 100000 in
theorem gp_aw5 : ∀ r ∈ gp_al 5, ∃ q, gp_cl[r.2 - 2]? = some q ∧ (r.2 = 4 ∨ r.2 = 5) ∧ Cond.classLink "GoldPlate$Plate" r.1 q.1 ∈ gp_ws := List.forall_mem_cons.mpr ⟨⟨_, rfl, by decide, iw_1_35⟩, fun _ h => absurd h List.not_mem_nil⟩
set_option maxRecDepth 100000 in
theorem gp_mw6 : ∀ r ∈ gp_ml 6, gp_mlp "GoldPlate$Search" r := List.forall_mem_cons.mpr ⟨⟨ow_Se_takingsOf, Or.inl ⟨rfl, iw_4_78, iw_4_80, iw_0_20⟩⟩, List.forall_mem_cons.mpr ⟨⟨ow_Se_priceAll, Or.inl ⟨rfl, iw_4_86, iw_4_88, iw_0_21⟩⟩, List.forall_mem_cons.mpr ⟨⟨ow_Se_setFloors, Or.inl ⟨rfl, iw_4_114, iw_4_116, iw_0_23⟩⟩, List.forall_mem_cons.mpr ⟨⟨ow_Pl_canSee, Or.inl ⟨rfl, iw_4_82, iw_4_83, iw_4_84⟩⟩, List.forall_mem_cons.mpr ⟨⟨ow_Su_clear, Or.inl ⟨rfl, iw_4_90, iw_4_91, iw_4_92⟩⟩, List.forall_mem_cons.mpr ⟨⟨ow_Pl_leftOf, Or.inl ⟨rfl, iw_4_94, iw_3_52, iw_3_53⟩⟩, List.forall_mem_cons.mpr ⟨⟨ow_Pl_wearOf, Or.inl ⟨rfl, iw_4_96, iw_3_56, iw_3_57⟩⟩, List.forall_mem_cons.mpr ⟨⟨ow_Mi_priceBy, Or.inl ⟨rfl, iw_4_97, iw_4_98, iw_4_99⟩⟩, List.forall_mem_cons.mpr ⟨⟨ow_Se_walk, Or.inl ⟨rfl, iw_4_122, iw_4_124, iw_0_24⟩⟩, List.forall_mem_cons.mpr ⟨⟨ow_Se_arrive, Or.inl ⟨rfl, iw_4_126, iw_4_128, iw_0_25⟩⟩, List.forall_mem_cons.mpr ⟨⟨ow_Mk_takenFor, Or.inl ⟨rfl, iw_4_130, iw_4_131, iw_4_132⟩⟩, List.forall_mem_cons.mpr ⟨⟨ow_Pl_rootsOf, Or.inl ⟨rfl, iw_4_158, iw_4_159, iw_4_160⟩⟩, List.forall_mem_cons.mpr ⟨⟨ow_Gp_markAt, Or.inr (Or.inr (Or.inr (Or.inr (Or.inl ⟨rfl, (List.mem_of_getElem? (i := 9) rfl), iw_3_76⟩))))⟩, fun _ h => absurd h List.not_mem_nil⟩⟩⟩⟩⟩⟩⟩⟩⟩⟩⟩⟩⟩
set_option maxRecDepth 100000 in
theorem gp_xw6 : ∀ r ∈ gp_xl 6, gp_xlp "GoldPlate$Search" r := List.forall_mem_cons.mpr ⟨Or.inr (Or.inl ⟨rfl, iw_4_76⟩), List.forall_mem_cons.mpr ⟨Or.inl ⟨rfl, iw_4_95⟩, fun _ h => absurd h List.not_mem_nil⟩⟩
set_option maxRecDepth 100000 in
theorem gp_ow6 : ∀ r ∈ gp_ol 6, Cond.methodLink "GoldPlate$Search" r.1 ⟨"java/lang/Object", "<init>", "()V"⟩ ∈ gp_ws := List.forall_mem_cons.mpr ⟨iw_2_8, fun _ h => absurd h List.not_mem_nil⟩
set_option maxRecDepth 100000 in
theorem gp_mw7 : ∀ r ∈ gp_ml 7, gp_mlp "GoldPlate$Sky" r := List.forall_mem_cons.mpr ⟨⟨ow_Sk_anyFound, Or.inl ⟨rfl, iw_5_36, iw_5_38, iw_0_28⟩⟩, List.forall_mem_cons.mpr ⟨⟨ow_Sk_fitsAll, Or.inl ⟨rfl, iw_5_40, iw_5_42, iw_0_29⟩⟩, List.forall_mem_cons.mpr ⟨⟨ow_Sk_fits, Or.inl ⟨rfl, iw_5_44, iw_5_46, iw_0_30⟩⟩, List.forall_mem_cons.mpr ⟨⟨ow_Sk_isPlace, Or.inl ⟨rfl, iw_5_57, iw_5_59, iw_0_31⟩⟩, List.forall_mem_cons.mpr ⟨⟨ow_Sk_isAbout, Or.inr (Or.inl ⟨rfl, iw_5_61, iw_5_62⟩)⟩, fun _ h => absurd h List.not_mem_nil⟩⟩⟩⟩⟩
set_option maxRecDepth 100000 in
theorem gp_xw7 : ∀ r ∈ gp_xl 7, gp_xlp "GoldPlate$Sky" r := List.forall_mem_cons.mpr ⟨Or.inl ⟨rfl, iw_5_64⟩, fun _ h => absurd h List.not_mem_nil⟩
set_option maxRecDepth 100000 in
theorem gp_ow7 : ∀ r ∈ gp_ol 7, Cond.methodLink "GoldPlate$Sky" r.1 ⟨"java/lang/Object", "<init>", "()V"⟩ ∈ gp_ws := List.forall_mem_cons.mpr ⟨iw_2_134, fun _ h => absurd h List.not_mem_nil⟩
set_option maxRecDepth 100000 in
theorem gp_Lw7 : ∀ r ∈ gp_Ll 7, Cond.constantLong "GoldPlate$Sky" r.1 r.2 ∈ gp_ws := List.forall_mem_cons.mpr ⟨iw_5_48, fun _ h => absurd h List.not_mem_nil⟩
set_option maxRecDepth 100000 in
theorem gp_mw8 : ∀ r ∈ gp_ml 8, gp_mlp "GoldPlate$Sums" r := List.forall_mem_cons.mpr ⟨⟨ow_Su_step, Or.inl ⟨rfl, iw_4_105, iw_4_107, iw_0_22⟩⟩, List.forall_mem_cons.mpr ⟨⟨ow_Su_join, Or.inr (Or.inl ⟨rfl, iw_4_109, iw_4_110⟩)⟩, fun _ h => absurd h List.not_mem_nil⟩⟩
set_option maxRecDepth 100000 in
theorem gp_ow8 : ∀ r ∈ gp_ol 8, Cond.methodLink "GoldPlate$Sums" r.1 ⟨"java/lang/Object", "<init>", "()V"⟩ ∈ gp_ws := List.forall_mem_cons.mpr ⟨iw_1_187, fun _ h => absurd h List.not_mem_nil⟩
set_option maxRecDepth 100000 in
theorem gp_mw9 : ∀ r ∈ gp_ml 9, gp_mlp "GoldPlate$Trials" r := List.forall_mem_cons.mpr ⟨⟨ow_Gp_placesTakenRight, Or.inr (Or.inr (Or.inr (Or.inr (Or.inl ⟨rfl, (List.mem_of_getElem? (i := 10) rfl), iw_5_156⟩))))⟩, fun _ h => absurd h List.not_mem_nil⟩
set_option maxRecDepth 100000 in
theorem gp_ow9 : ∀ r ∈ gp_ol 9, Cond.methodLink "GoldPlate$Trials" r.1 ⟨"java/lang/Object", "<init>", "()V"⟩ ∈ gp_ws := List.forall_mem_cons.mpr ⟨iw_2_189, fun _ h => absurd h List.not_mem_nil⟩
set_option maxRecDepth 100000 in
theorem gp_mw10 : ∀ r ∈ gp_ml 10, gp_mlp "GoldPlate$Widths" r := List.forall_mem_cons.mpr ⟨⟨ow_Br_foldsBy, Or.inl ⟨rfl, iw_4_199, iw_4_200, iw_4_201⟩⟩, List.forall_mem_cons.mpr ⟨⟨ow_Wi_rankOf, Or.inr (Or.inl ⟨rfl, iw_4_203, iw_4_204⟩)⟩, List.forall_mem_cons.mpr ⟨⟨ow_Wi_insert, Or.inl ⟨rfl, iw_4_225, iw_4_227, iw_0_27⟩⟩, List.forall_mem_cons.mpr ⟨⟨ow_Br_heightFor, Or.inl ⟨rfl, iw_4_206, iw_4_207, iw_4_208⟩⟩, List.forall_mem_cons.mpr ⟨⟨ow_Su_clear, Or.inl ⟨rfl, iw_4_210, iw_4_91, iw_4_92⟩⟩, List.forall_mem_cons.mpr ⟨⟨ow_Wi_isPrime, Or.inr (Or.inl ⟨rfl, iw_4_211, iw_4_212⟩)⟩, List.forall_mem_cons.mpr ⟨⟨ow_Br_edges, Or.inl ⟨rfl, iw_4_214, iw_4_215, iw_4_216⟩⟩, List.forall_mem_cons.mpr ⟨⟨ow_Mi_rankBy, Or.inl ⟨rfl, iw_4_221, iw_4_222, iw_4_223⟩⟩, fun _ h => absurd h List.not_mem_nil⟩⟩⟩⟩⟩⟩⟩⟩
set_option maxRecDepth 100000 in
theorem gp_xw10 : ∀ r ∈ gp_xl 10, gp_xlp "GoldPlate$Widths" r := List.forall_mem_cons.mpr ⟨Or.inr (Or.inr ⟨rfl, iw_4_218⟩), fun _ h => absurd h List.not_mem_nil⟩
set_option maxRecDepth 100000 in
theorem gp_ow10 : ∀ r ∈ gp_ol 10, Cond.methodLink "GoldPlate$Widths" r.1 ⟨"java/lang/Object", "<init>", "()V"⟩ ∈ gp_ws := List.forall_mem_cons.mpr ⟨iw_2_116, fun _ h => absurd h List.not_mem_nil⟩
set_option maxRecDepth 100000 in
theorem gp_mw11 : ∀ r ∈ gp_ml 11, gp_mlp "GoldPlate" r := List.forall_mem_cons.mpr ⟨⟨ow_Pl_init, Or.inr (Or.inr (Or.inl ⟨rfl, iw_1_31, iw_1_32, rfl, rfl⟩))⟩, List.forall_mem_cons.mpr ⟨⟨ow_Se_init, Or.inr (Or.inr (Or.inl ⟨rfl, iw_2_5, iw_2_6, rfl, rfl⟩))⟩, List.forall_mem_cons.mpr ⟨⟨ow_Ch_init, Or.inr (Or.inr (Or.inl ⟨rfl, iw_2_52, iw_2_53, rfl, rfl⟩))⟩, List.forall_mem_cons.mpr ⟨⟨ow_Gp_within, Or.inr (Or.inl ⟨rfl, iw_3_12, iw_3_13⟩)⟩, List.forall_mem_cons.mpr ⟨⟨ow_Pl_has, Or.inl ⟨rfl, iw_3_19, iw_3_20, iw_3_21⟩⟩, List.forall_mem_cons.mpr ⟨⟨ow_Gp_tellNeeds, Or.inr (Or.inl ⟨rfl, iw_3_23, iw_3_24⟩)⟩, List.forall_mem_cons.mpr ⟨⟨ow_Gp_tellKnows, Or.inr (Or.inl ⟨rfl, iw_3_26, iw_3_27⟩)⟩, List.forall_mem_cons.mpr ⟨⟨ow_Gp_tellFirst, Or.inr (Or.inl ⟨rfl, iw_3_29, iw_3_30⟩)⟩, List.forall_mem_cons.mpr ⟨⟨ow_Gp_tellSecond, Or.inr (Or.inl ⟨rfl, iw_3_35, iw_3_36⟩)⟩, List.forall_mem_cons.mpr ⟨⟨ow_Gp_canBeOther, Or.inr (Or.inl ⟨rfl, iw_3_32, iw_3_33⟩)⟩, List.forall_mem_cons.mpr ⟨⟨ow_Pl_leftOf, Or.inl ⟨rfl, iw_3_51, iw_3_52, iw_3_53⟩⟩, List.forall_mem_cons.mpr ⟨⟨ow_Pl_wearOf, Or.inl ⟨rfl, iw_3_55, iw_3_56, iw_3_57⟩⟩, List.forall_mem_cons.mpr ⟨⟨ow_Pl_chainOf, Or.inl ⟨rfl, iw_3_60, iw_3_61, iw_3_62⟩⟩, List.forall_mem_cons.mpr ⟨⟨ow_Gp_inMessage, Or.inl ⟨rfl, iw_3_71, iw_3_73, iw_0_0⟩⟩, List.forall_mem_cons.mpr ⟨⟨ow_Gp_markAt, Or.inr (Or.inl ⟨rfl, iw_3_75, iw_3_76⟩)⟩, List.forall_mem_cons.mpr ⟨⟨ow_Pa_addBytes, Or.inl ⟨rfl, iw_3_82, iw_3_83, iw_3_84⟩⟩, List.forall_mem_cons.mpr ⟨⟨ow_Gp_isMind, Or.inr (Or.inl ⟨rfl, iw_3_94, iw_3_95⟩)⟩, List.forall_mem_cons.mpr ⟨⟨ow_Pa_forget, Or.inl ⟨rfl, iw_3_97, iw_3_98, iw_3_99⟩⟩, List.forall_mem_cons.mpr ⟨⟨ow_Pa_scan, Or.inl ⟨rfl, iw_3_101, iw_3_102, iw_3_103⟩⟩, List.forall_mem_cons.mpr ⟨⟨ow_Pa_readsText, Or.inl ⟨rfl, iw_4_7, iw_4_8, iw_4_9⟩⟩, List.forall_mem_cons.mpr ⟨⟨ow_Se_setUp, Or.inl ⟨rfl, iw_4_72, iw_4_73, iw_4_74⟩⟩, List.forall_mem_cons.mpr ⟨⟨ow_Se_countUpTo, Or.inl ⟨rfl, iw_4_118, iw_4_119, iw_4_120⟩⟩, List.forall_mem_cons.mpr ⟨⟨ow_Gp_findCheapest, Or.inl ⟨rfl, iw_4_138, iw_4_140, iw_0_26⟩⟩, List.forall_mem_cons.mpr ⟨⟨ow_Se_cheapestTaking, Or.inl ⟨rfl, iw_4_146, iw_4_147, iw_4_148⟩⟩, List.forall_mem_cons.mpr ⟨⟨ow_Se_partingPlace, Or.inl ⟨rfl, iw_4_150, iw_4_151, iw_4_152⟩⟩, List.forall_mem_cons.mpr ⟨⟨ow_Se_fallsFrom, Or.inl ⟨rfl, iw_4_154, iw_4_155, iw_4_156⟩⟩, List.forall_mem_cons.mpr ⟨⟨ow_Se_findCheapest, Or.inl ⟨rfl, iw_4_142, iw_4_143, iw_4_144⟩⟩, List.forall_mem_cons.mpr ⟨⟨ow_Pl_all, Or.inl ⟨rfl, iw_4_166, iw_4_167, iw_4_168⟩⟩, List.forall_mem_cons.mpr ⟨⟨ow_Pl_rights, Or.inl ⟨rfl, iw_4_170, iw_4_171, iw_4_172⟩⟩, List.forall_mem_cons.mpr ⟨⟨ow_Br_append, Or.inl ⟨rfl, iw_4_183, iw_4_184, iw_4_185⟩⟩, List.forall_mem_cons.mpr ⟨⟨ow_Wi_order, Or.inl ⟨rfl, iw_4_195, iw_4_196, iw_4_197⟩⟩, List.forall_mem_cons.mpr ⟨⟨ow_Br_foldsBy, Or.inl ⟨rfl, iw_4_233, iw_4_200, iw_4_201⟩⟩, List.forall_mem_cons.mpr ⟨⟨ow_Br_agreements, Or.inl ⟨rfl, iw_4_234, iw_4_235, iw_4_236⟩⟩, List.forall_mem_cons.mpr ⟨⟨ow_Br_isHalf, Or.inl ⟨rfl, iw_5_2, iw_5_3, iw_5_4⟩⟩, List.forall_mem_cons.mpr ⟨⟨ow_Sk_add, Or.inl ⟨rfl, iw_5_11, iw_5_12, iw_5_13⟩⟩, List.forall_mem_cons.mpr ⟨⟨ow_Sk_has, Or.inl ⟨rfl, iw_5_20, iw_5_21, iw_5_22⟩⟩, List.forall_mem_cons.mpr ⟨⟨ow_Sk_countYears, Or.inl ⟨rfl, iw_5_32, iw_5_33, iw_5_34⟩⟩, List.forall_mem_cons.mpr ⟨⟨ow_Sk_countPlaces, Or.inl ⟨rfl, iw_5_53, iw_5_54, iw_5_55⟩⟩, List.forall_mem_cons.mpr ⟨⟨ow_Pl_thingsOf, Or.inl ⟨rfl, iw_5_70, iw_5_71, iw_5_72⟩⟩, List.forall_mem_cons.mpr ⟨⟨ow_Ch_findBest, Or.inl ⟨rfl, iw_5_78, iw_5_79, iw_5_80⟩⟩, List.forall_mem_cons.mpr ⟨⟨ow_Gp_countTold, Or.inl ⟨rfl, iw_5_118, iw_5_120, iw_0_37⟩⟩, List.forall_mem_cons.mpr ⟨⟨ow_Ji_bitCount, Or.inr (Or.inl ⟨rfl, iw_5_122, iw_5_101⟩)⟩, List.forall_mem_cons.mpr ⟨⟨ow_Gp_othersAreThere, Or.inl ⟨rfl, iw_5_127, iw_5_129, iw_0_38⟩⟩, List.forall_mem_cons.mpr ⟨⟨ow_Tr_add, Or.inl ⟨rfl, iw_5_135, iw_5_136, iw_5_137⟩⟩, List.forall_mem_cons.mpr ⟨⟨ow_Gp_takingAt, Or.inr (Or.inl ⟨rfl, iw_5_131, iw_5_132⟩)⟩, List.forall_mem_cons.mpr ⟨⟨ow_Mk_takenFor, Or.inl ⟨rfl, iw_5_134, iw_4_131, iw_4_132⟩⟩, List.forall_mem_cons.mpr ⟨⟨ow_Se_cheapestPacked, Or.inl ⟨rfl, iw_5_143, iw_5_144, iw_5_145⟩⟩, List.forall_mem_cons.mpr ⟨⟨ow_Tr_rightPlaces, Or.inl ⟨rfl, iw_5_151, iw_5_152, iw_5_153⟩⟩, List.forall_mem_cons.mpr ⟨⟨ow_Gp_placesTakenRight, Or.inr (Or.inl ⟨rfl, iw_5_158, iw_5_156⟩)⟩, List.forall_mem_cons.mpr ⟨⟨ow_Gp_marksAtPlaces, Or.inl ⟨rfl, iw_5_159, iw_5_161, iw_0_39⟩⟩, List.forall_mem_cons.mpr ⟨⟨ow_Mi_init, Or.inr (Or.inr (Or.inr (Or.inr (Or.inr ⟨rfl, (List.mem_of_getElem? (i := 0) rfl), iw_1_117, rfl, rfl⟩))))⟩, List.forall_mem_cons.mpr ⟨⟨ow_Su_init, Or.inr (Or.inr (Or.inr (Or.inr (Or.inr ⟨rfl, (List.mem_of_getElem? (i := 1) rfl), iw_1_185, rfl, rfl⟩))))⟩, List.forall_mem_cons.mpr ⟨⟨ow_Pa_init, Or.inr (Or.inr (Or.inr (Or.inr (Or.inr ⟨rfl, (List.mem_of_getElem? (i := 2) rfl), iw_1_203, rfl, rfl⟩))))⟩, List.forall_mem_cons.mpr ⟨⟨ow_Br_init, Or.inr (Or.inr (Or.inr (Or.inr (Or.inr ⟨rfl, (List.mem_of_getElem? (i := 3) rfl), iw_2_98, rfl, rfl⟩))))⟩, List.forall_mem_cons.mpr ⟨⟨ow_Wi_init, Or.inr (Or.inr (Or.inr (Or.inr (Or.inr ⟨rfl, (List.mem_of_getElem? (i := 4) rfl), iw_2_114, rfl, rfl⟩))))⟩, List.forall_mem_cons.mpr ⟨⟨ow_Sk_init, Or.inr (Or.inr (Or.inr (Or.inr (Or.inr ⟨rfl, (List.mem_of_getElem? (i := 5) rfl), iw_2_132, rfl, rfl⟩))))⟩, List.forall_mem_cons.mpr ⟨⟨ow_Tr_init, Or.inr (Or.inr (Or.inr (Or.inr (Or.inr ⟨rfl, (List.mem_of_getElem? (i := 6) rfl), iw_2_187, rfl, rfl⟩))))⟩, fun _ h => absurd h List.not_mem_nil⟩⟩⟩⟩⟩⟩⟩⟩⟩⟩⟩⟩⟩⟩⟩⟩⟩⟩⟩⟩⟩⟩⟩⟩⟩⟩⟩⟩⟩⟩⟩⟩⟩⟩⟩⟩⟩⟩⟩⟩⟩⟩⟩⟩⟩⟩⟩⟩⟩⟩⟩⟩⟩⟩⟩⟩⟩
set_option maxRecDepth 100000 in
theorem gp_ow11 : ∀ r ∈ gp_ol 11, Cond.methodLink "GoldPlate" r.1 ⟨"java/lang/Object", "<init>", "()V"⟩ ∈ gp_ws := List.forall_mem_cons.mpr ⟨iw_1_26, fun _ h => absurd h List.not_mem_nil⟩
set_option maxRecDepth 100000 in
theorem gp_nw11 : ∀ r ∈ gp_nl 11, ∃ q, gp_cl[r.2]? = some q ∧ Cond.classLink "GoldPlate" r.1 q.1 ∈ gp_ws := List.forall_mem_cons.mpr ⟨⟨_, rfl, iw_1_29⟩, List.forall_mem_cons.mpr ⟨⟨_, rfl, iw_1_113⟩, List.forall_mem_cons.mpr ⟨⟨_, rfl, iw_1_182⟩, List.forall_mem_cons.mpr ⟨⟨_, rfl, iw_1_200⟩, List.forall_mem_cons.mpr ⟨⟨_, rfl, iw_2_3⟩, List.forall_mem_cons.mpr ⟨⟨_, rfl, iw_2_50⟩, List.forall_mem_cons.mpr ⟨⟨_, rfl, iw_2_95⟩, List.forall_mem_cons.mpr ⟨⟨_, rfl, iw_2_111⟩, List.forall_mem_cons.mpr ⟨⟨_, rfl, iw_2_129⟩, List.forall_mem_cons.mpr ⟨⟨_, rfl, iw_2_184⟩, fun _ h => absurd h List.not_mem_nil⟩⟩⟩⟩⟩⟩⟩⟩⟩⟩
set_option maxRecDepth 100000 in
theorem gp_aw11 : ∀ r ∈ gp_al 11, ∃ q, gp_cl[r.2 - 2]? = some q ∧ (r.2 = 4 ∨ r.2 = 5) ∧ Cond.classLink "GoldPlate" r.1 q.1 ∈ gp_ws := List.forall_mem_cons.mpr ⟨⟨_, rfl, by decide, iw_1_113⟩, fun _ h => absurd h List.not_mem_nil⟩
set_option maxRecDepth 100000 in
theorem gp_kw11 : ∀ r ∈ gp_kl 11, Cond.constant "GoldPlate" r.1 r.2 ∈ gp_ws := List.forall_mem_cons.mpr ⟨iw_3_50, List.forall_mem_cons.mpr ⟨iw_5_10, List.forall_mem_cons.mpr ⟨iw_5_19, List.forall_mem_cons.mpr ⟨iw_5_69, fun _ h => absurd h List.not_mem_nil⟩⟩⟩⟩
set_option maxRecDepth 100000 in
theorem gp_mw12 : ∀ r ∈ gp_ml 12, gp_mlp "GoldPlateModel" r := List.forall_mem_cons.mpr ⟨⟨ow_Rf_isIn, Or.inr (Or.inl ⟨rfl, iw_6_148, iw_6_149⟩)⟩, List.forall_mem_cons.mpr ⟨⟨ow_Rf_isMark, Or.inl ⟨rfl, iw_6_155, iw_6_157, iw_0_40⟩⟩, List.forall_mem_cons.mpr ⟨⟨ow_Rf_depth, Or.inl ⟨rfl, iw_6_180, iw_6_182, iw_0_43⟩⟩, List.forall_mem_cons.mpr ⟨⟨ow_Rf_left, Or.inl ⟨rfl, iw_6_176, iw_6_178, iw_0_42⟩⟩, List.forall_mem_cons.mpr ⟨⟨ow_Rf_chain, Or.inl ⟨rfl, iw_6_172, iw_6_174, iw_0_41⟩⟩, List.forall_mem_cons.mpr ⟨⟨ow_Rf_isWorn, Or.inl ⟨rfl, iw_6_184, iw_6_186, iw_0_44⟩⟩, List.forall_mem_cons.mpr ⟨⟨ow_Js_length, Or.inl ⟨rfl, iw_6_228, iw_3_129, iw_3_130⟩⟩, List.forall_mem_cons.mpr ⟨⟨ow_Js_charAt, Or.inl ⟨rfl, iw_6_229, iw_3_139, iw_3_140⟩⟩, List.forall_mem_cons.mpr ⟨⟨ow_Rf_is, Or.inl ⟨rfl, iw_6_224, iw_6_226, iw_0_49⟩⟩, List.forall_mem_cons.mpr ⟨⟨ow_Rf_name, Or.inl ⟨rfl, iw_6_238, iw_7_0, iw_0_50⟩⟩, List.forall_mem_cons.mpr ⟨⟨ow_Rf_see, Or.inl ⟨rfl, iw_6_212, iw_6_214, iw_0_47⟩⟩, List.forall_mem_cons.mpr ⟨⟨ow_Rf_isLetter, Or.inr (Or.inl ⟨rfl, iw_6_216, iw_6_217⟩)⟩, List.forall_mem_cons.mpr ⟨⟨ow_Rf_word, Or.inl ⟨rfl, iw_6_219, iw_6_221, iw_0_48⟩⟩, List.forall_mem_cons.mpr ⟨⟨ow_Rf_isDigit, Or.inr (Or.inl ⟨rfl, iw_7_15, iw_7_16⟩)⟩, List.forall_mem_cons.mpr ⟨⟨ow_Rf_bad, Or.inl ⟨rfl, iw_7_22, iw_7_24, iw_0_52⟩⟩, List.forall_mem_cons.mpr ⟨⟨ow_Rf_next0, Or.inl ⟨rfl, iw_6_208, iw_6_210, iw_0_46⟩⟩, List.forall_mem_cons.mpr ⟨⟨ow_Rf_product, Or.inl ⟨rfl, iw_7_38, iw_7_40, iw_0_56⟩⟩, List.forall_mem_cons.mpr ⟨⟨ow_Rf_lay, Or.inl ⟨rfl, iw_7_46, iw_7_48, iw_0_58⟩⟩, List.forall_mem_cons.mpr ⟨⟨ow_Rf_unit, Or.inl ⟨rfl, iw_7_42, iw_7_44, iw_0_57⟩⟩, List.forall_mem_cons.mpr ⟨⟨ow_Rf_number, Or.inl ⟨rfl, iw_7_26, iw_7_28, iw_0_53⟩⟩, List.forall_mem_cons.mpr ⟨⟨ow_Rf_every, Or.inl ⟨rfl, iw_7_54, iw_7_56, iw_0_60⟩⟩, List.forall_mem_cons.mpr ⟨⟨ow_Rf_one, Or.inl ⟨rfl, iw_7_58, iw_7_60, iw_0_61⟩⟩, List.forall_mem_cons.mpr ⟨⟨ow_Rf_opens, Or.inl ⟨rfl, iw_7_62, iw_7_64, iw_0_62⟩⟩, List.forall_mem_cons.mpr ⟨⟨ow_Rf_any, Or.inl ⟨rfl, iw_7_50, iw_7_52, iw_0_59⟩⟩, List.forall_mem_cons.mpr ⟨⟨ow_Rf_need, Or.inl ⟨rfl, iw_7_66, iw_7_68, iw_0_63⟩⟩, List.forall_mem_cons.mpr ⟨⟨ow_Rf_sumUp, Or.inl ⟨rfl, iw_7_34, iw_7_36, iw_0_55⟩⟩, List.forall_mem_cons.mpr ⟨⟨ow_Rf_aPrice, Or.inl ⟨rfl, iw_7_30, iw_7_32, iw_0_54⟩⟩, List.forall_mem_cons.mpr ⟨⟨ow_Rf_isMind, Or.inl ⟨rfl, iw_6_204, iw_6_206, iw_0_45⟩⟩, List.forall_mem_cons.mpr ⟨⟨ow_Rf_aLine, Or.inl ⟨rfl, iw_7_18, iw_7_20, iw_0_51⟩⟩, List.forall_mem_cons.mpr ⟨⟨ow_Rf_takesMind, Or.inl ⟨rfl, iw_7_70, iw_7_72, iw_0_64⟩⟩, List.forall_mem_cons.mpr ⟨⟨ow_Rf_both, Or.inr (Or.inl ⟨rfl, iw_7_94, iw_7_95⟩)⟩, List.forall_mem_cons.mpr ⟨⟨ow_Rf_comesTo, Or.inl ⟨rfl, iw_7_90, iw_7_92, iw_0_67⟩⟩, List.forall_mem_cons.mpr ⟨⟨ow_Rf_priceNow, Or.inl ⟨rfl, iw_7_86, iw_7_88, iw_0_66⟩⟩, List.forall_mem_cons.mpr ⟨⟨ow_Rf_canSee, Or.inl ⟨rfl, iw_7_105, iw_7_107, iw_0_70⟩⟩, List.forall_mem_cons.mpr ⟨⟨ow_Rf_thing, Or.inl ⟨rfl, iw_7_113, iw_7_115, iw_0_72⟩⟩, List.forall_mem_cons.mpr ⟨⟨ow_Rf_canTake, Or.inl ⟨rfl, iw_7_101, iw_7_103, iw_0_69⟩⟩, List.forall_mem_cons.mpr ⟨⟨ow_Rf_isTwice, Or.inl ⟨rfl, iw_7_109, iw_7_111, iw_0_71⟩⟩, List.forall_mem_cons.mpr ⟨⟨ow_Rf_goesOn, Or.inl ⟨rfl, iw_7_97, iw_7_99, iw_0_68⟩⟩, List.forall_mem_cons.mpr ⟨⟨ow_Rf_laysPrices, Or.inl ⟨rfl, iw_7_82, iw_7_84, iw_0_65⟩⟩, List.forall_mem_cons.mpr ⟨⟨ow_Rf_seeks, Or.inl ⟨rfl, iw_7_121, iw_7_123, iw_0_73⟩⟩, List.forall_mem_cons.mpr ⟨⟨ow_Rf_allNeeds, Or.inl ⟨rfl, iw_7_125, iw_7_127, iw_0_74⟩⟩, List.forall_mem_cons.mpr ⟨⟨ow_Rf_isAlone, Or.inl ⟨rfl, iw_7_133, iw_7_135, iw_0_75⟩⟩, List.forall_mem_cons.mpr ⟨⟨ow_Rf_laidAt, Or.inl ⟨rfl, iw_7_168, iw_7_170, iw_0_80⟩⟩, List.forall_mem_cons.mpr ⟨⟨ow_Rf_isPrime, Or.inr (Or.inl ⟨rfl, iw_7_161, iw_7_162⟩)⟩, List.forall_mem_cons.mpr ⟨⟨ow_Rf_edges, Or.inl ⟨rfl, iw_7_164, iw_7_166, iw_0_79⟩⟩, List.forall_mem_cons.mpr ⟨⟨ow_Rf_isWidth, Or.inl ⟨rfl, iw_7_153, iw_7_155, iw_0_77⟩⟩, List.forall_mem_cons.mpr ⟨⟨ow_Rf_triedAs, Or.inl ⟨rfl, iw_7_157, iw_7_159, iw_0_78⟩⟩, List.forall_mem_cons.mpr ⟨⟨ow_Rf_findsWidths, Or.inl ⟨rfl, iw_7_149, iw_7_151, iw_0_76⟩⟩, List.forall_mem_cons.mpr ⟨⟨ow_Rf_isBeat, Or.inl ⟨rfl, iw_7_185, iw_7_187, iw_0_81⟩⟩, List.forall_mem_cons.mpr ⟨⟨ow_Rf_isThen, Or.inl ⟨rfl, iw_7_198, iw_7_200, iw_0_82⟩⟩, List.forall_mem_cons.mpr ⟨⟨ow_Rf_distance, Or.inr (Or.inl ⟨rfl, iw_7_207, iw_7_208⟩)⟩, List.forall_mem_cons.mpr ⟨⟨ow_Rf_toldBy, Or.inl ⟨rfl, iw_7_215, iw_7_217, iw_0_83⟩⟩, List.forall_mem_cons.mpr ⟨⟨ow_Rf_count, Or.inr (Or.inl ⟨rfl, iw_7_227, iw_7_228⟩)⟩, List.forall_mem_cons.mpr ⟨⟨ow_Rf_worth, Or.inl ⟨rfl, iw_7_223, iw_7_225, iw_0_84⟩⟩, List.forall_mem_cons.mpr ⟨⟨ow_Rf_costOfSet, Or.inl ⟨rfl, iw_7_230, iw_7_232, iw_0_85⟩⟩, List.forall_mem_cons.mpr ⟨⟨ow_Rf_allMarks, Or.inl ⟨rfl, iw_7_238, iw_8_0, iw_0_86⟩⟩, List.forall_mem_cons.mpr ⟨⟨ow_Rf_cheapestNow, Or.inl ⟨rfl, iw_8_14, iw_8_16, iw_0_87⟩⟩, List.forall_mem_cons.mpr ⟨⟨ow_Rf_isOfThis, Or.inl ⟨rfl, iw_8_22, iw_8_24, iw_0_88⟩⟩, fun _ h => absurd h List.not_mem_nil⟩⟩⟩⟩⟩⟩⟩⟩⟩⟩⟩⟩⟩⟩⟩⟩⟩⟩⟩⟩⟩⟩⟩⟩⟩⟩⟩⟩⟩⟩⟩⟩⟩⟩⟩⟩⟩⟩⟩⟩⟩⟩⟩⟩⟩⟩⟩⟩⟩⟩⟩⟩⟩⟩⟩⟩⟩⟩
set_option maxRecDepth 100000 in
theorem gp_ow12 : ∀ r ∈ gp_ol 12, Cond.methodLink "GoldPlateModel" r.1 ⟨"java/lang/Object", "<init>", "()V"⟩ ∈ gp_ws := List.forall_mem_cons.mpr ⟨iw_5_172, fun _ h => absurd h List.not_mem_nil⟩
set_option maxRecDepth 100000 in
theorem gp_kw12 : ∀ r ∈ gp_kl 12, Cond.constant "GoldPlateModel" r.1 r.2 ∈ gp_ws := List.forall_mem_cons.mpr ⟨iw_6_171, List.forall_mem_cons.mpr ⟨iw_7_180, List.forall_mem_cons.mpr ⟨iw_7_189, List.forall_mem_cons.mpr ⟨iw_7_214, fun _ h => absurd h List.not_mem_nil⟩⟩⟩⟩
set_option maxRecDepth 100000 in
theorem gp_Lw12 : ∀ r ∈ gp_Ll 12, Cond.constantLong "GoldPlateModel" r.1 r.2 ∈ gp_ws := List.forall_mem_cons.mpr ⟨iw_7_202, fun _ h => absurd h List.not_mem_nil⟩
set_option maxRecDepth 100000 in
theorem gp_mw13 : ∀ r ∈ gp_ml 13, gp_mlp "GoldPlateLaw" r := List.forall_mem_cons.mpr ⟨⟨ow_Gp_init, Or.inr (Or.inr (Or.inl ⟨rfl, iw_1_23, iw_1_24, rfl, rfl⟩))⟩, List.forall_mem_cons.mpr ⟨⟨ow_Rf_init, Or.inr (Or.inr (Or.inl ⟨rfl, iw_5_169, iw_5_170, rfl, rfl⟩))⟩, List.forall_mem_cons.mpr ⟨⟨ow_Gp_mark, Or.inl ⟨rfl, iw_3_8, iw_3_9, iw_3_10⟩⟩, List.forall_mem_cons.mpr ⟨⟨ow_Rf_mark, Or.inl ⟨rfl, iw_6_144, iw_6_145, iw_6_146⟩⟩, List.forall_mem_cons.mpr ⟨⟨ow_Gp_tell, Or.inl ⟨rfl, iw_3_15, iw_3_16, iw_3_17⟩⟩, List.forall_mem_cons.mpr ⟨⟨ow_Rf_tell, Or.inl ⟨rfl, iw_6_151, iw_6_152, iw_6_153⟩⟩, List.forall_mem_cons.mpr ⟨⟨ow_Gp_hard, Or.inl ⟨rfl, iw_3_38, iw_3_39, iw_3_40⟩⟩, List.forall_mem_cons.mpr ⟨⟨ow_Rf_hard, Or.inl ⟨rfl, iw_6_159, iw_6_160, iw_6_161⟩⟩, List.forall_mem_cons.mpr ⟨⟨ow_Gp_year, Or.inl ⟨rfl, iw_3_42, iw_3_43, iw_3_44⟩⟩, List.forall_mem_cons.mpr ⟨⟨ow_Rf_year, Or.inl ⟨rfl, iw_6_163, iw_6_164, iw_6_165⟩⟩, List.forall_mem_cons.mpr ⟨⟨ow_Gp_of, Or.inl ⟨rfl, iw_3_46, iw_3_47, iw_3_48⟩⟩, List.forall_mem_cons.mpr ⟨⟨ow_Rf_of, Or.inl ⟨rfl, iw_6_167, iw_6_168, iw_6_169⟩⟩, List.forall_mem_cons.mpr ⟨⟨ow_Gp_put, Or.inl ⟨rfl, iw_3_67, iw_3_68, iw_3_69⟩⟩, List.forall_mem_cons.mpr ⟨⟨ow_Rf_put, Or.inl ⟨rfl, iw_6_188, iw_6_189, iw_6_190⟩⟩, List.forall_mem_cons.mpr ⟨⟨ow_Gp_feed, Or.inl ⟨rfl, iw_3_78, iw_3_79, iw_3_80⟩⟩, List.forall_mem_cons.mpr ⟨⟨ow_Rf_feed, Or.inl ⟨rfl, iw_6_192, iw_6_193, iw_6_194⟩⟩, List.forall_mem_cons.mpr ⟨⟨ow_Gp_end, Or.inl ⟨rfl, iw_3_86, iw_3_87, iw_3_88⟩⟩, List.forall_mem_cons.mpr ⟨⟨ow_Rf_end, Or.inl ⟨rfl, iw_6_196, iw_6_197, iw_6_198⟩⟩, List.forall_mem_cons.mpr ⟨⟨ow_Gp_mind, Or.inl ⟨rfl, iw_3_90, iw_3_91, iw_3_92⟩⟩, List.forall_mem_cons.mpr ⟨⟨ow_Rf_mind, Or.inl ⟨rfl, iw_6_200, iw_6_201, iw_6_202⟩⟩, List.forall_mem_cons.mpr ⟨⟨ow_Gp_fault, Or.inl ⟨rfl, iw_4_64, iw_4_65, iw_4_66⟩⟩, List.forall_mem_cons.mpr ⟨⟨ow_Rf_fault, Or.inl ⟨rfl, iw_7_74, iw_7_75, iw_7_76⟩⟩, List.forall_mem_cons.mpr ⟨⟨ow_Gp_readings, Or.inl ⟨rfl, iw_4_68, iw_4_69, iw_4_70⟩⟩, List.forall_mem_cons.mpr ⟨⟨ow_Rf_readings, Or.inl ⟨rfl, iw_7_78, iw_7_79, iw_7_80⟩⟩, List.forall_mem_cons.mpr ⟨⟨ow_Gp_cheapest, Or.inl ⟨rfl, iw_4_134, iw_4_135, iw_4_136⟩⟩, List.forall_mem_cons.mpr ⟨⟨ow_Rf_cheapest, Or.inl ⟨rfl, iw_7_117, iw_7_118, iw_7_119⟩⟩, List.forall_mem_cons.mpr ⟨⟨ow_Gp_alone, Or.inl ⟨rfl, iw_4_162, iw_4_163, iw_4_164⟩⟩, List.forall_mem_cons.mpr ⟨⟨ow_Rf_alone, Or.inl ⟨rfl, iw_7_129, iw_7_130, iw_7_131⟩⟩, List.forall_mem_cons.mpr ⟨⟨ow_Gp_bits, Or.inl ⟨rfl, iw_4_179, iw_4_180, iw_4_181⟩⟩, List.forall_mem_cons.mpr ⟨⟨ow_Rf_bits, Or.inl ⟨rfl, iw_7_137, iw_7_138, iw_7_139⟩⟩, List.forall_mem_cons.mpr ⟨⟨ow_Gp_grid, Or.inl ⟨rfl, iw_4_187, iw_4_188, iw_4_189⟩⟩, List.forall_mem_cons.mpr ⟨⟨ow_Rf_grid, Or.inl ⟨rfl, iw_7_141, iw_7_142, iw_7_143⟩⟩, List.forall_mem_cons.mpr ⟨⟨ow_Gp_widths, Or.inl ⟨rfl, iw_4_191, iw_4_192, iw_4_193⟩⟩, List.forall_mem_cons.mpr ⟨⟨ow_Rf_widths, Or.inl ⟨rfl, iw_7_145, iw_7_146, iw_7_147⟩⟩, List.forall_mem_cons.mpr ⟨⟨ow_Gp_laid, Or.inl ⟨rfl, iw_4_229, iw_4_230, iw_4_231⟩⟩, List.forall_mem_cons.mpr ⟨⟨ow_Rf_laid, Or.inl ⟨rfl, iw_7_172, iw_7_173, iw_7_174⟩⟩, List.forall_mem_cons.mpr ⟨⟨ow_Gp_beat, Or.inl ⟨rfl, iw_5_6, iw_5_7, iw_5_8⟩⟩, List.forall_mem_cons.mpr ⟨⟨ow_Rf_beat, Or.inl ⟨rfl, iw_7_176, iw_7_177, iw_7_178⟩⟩, List.forall_mem_cons.mpr ⟨⟨ow_Gp_found, Or.inl ⟨rfl, iw_5_15, iw_5_16, iw_5_17⟩⟩, List.forall_mem_cons.mpr ⟨⟨ow_Rf_found, Or.inl ⟨rfl, iw_7_181, iw_7_182, iw_7_183⟩⟩, List.forall_mem_cons.mpr ⟨⟨ow_Gp_far, Or.inl ⟨rfl, iw_5_24, iw_5_25, iw_5_26⟩⟩, List.forall_mem_cons.mpr ⟨⟨ow_Rf_far, Or.inl ⟨rfl, iw_7_190, iw_7_191, iw_7_192⟩⟩, List.forall_mem_cons.mpr ⟨⟨ow_Gp_years, Or.inl ⟨rfl, iw_5_28, iw_5_29, iw_5_30⟩⟩, List.forall_mem_cons.mpr ⟨⟨ow_Rf_years, Or.inl ⟨rfl, iw_7_194, iw_7_195, iw_7_196⟩⟩, List.forall_mem_cons.mpr ⟨⟨ow_Gp_places, Or.inl ⟨rfl, iw_5_49, iw_5_50, iw_5_51⟩⟩, List.forall_mem_cons.mpr ⟨⟨ow_Rf_places, Or.inl ⟨rfl, iw_7_203, iw_7_204, iw_7_205⟩⟩, List.forall_mem_cons.mpr ⟨⟨ow_Gp_told, Or.inl ⟨rfl, iw_5_65, iw_5_66, iw_5_67⟩⟩, List.forall_mem_cons.mpr ⟨⟨ow_Rf_told, Or.inl ⟨rfl, iw_7_210, iw_7_211, iw_7_212⟩⟩, List.forall_mem_cons.mpr ⟨⟨ow_Gp_best, Or.inl ⟨rfl, iw_5_74, iw_5_75, iw_5_76⟩⟩, List.forall_mem_cons.mpr ⟨⟨ow_Rf_best, Or.inl ⟨rfl, iw_7_219, iw_7_220, iw_7_221⟩⟩, List.forall_mem_cons.mpr ⟨⟨ow_Gp_never, Or.inl ⟨rfl, iw_5_110, iw_5_111, iw_5_112⟩⟩, List.forall_mem_cons.mpr ⟨⟨ow_Rf_never, Or.inl ⟨rfl, iw_7_234, iw_7_235, iw_7_236⟩⟩, List.forall_mem_cons.mpr ⟨⟨ow_Gp_deeper, Or.inl ⟨rfl, iw_5_114, iw_5_115, iw_5_116⟩⟩, List.forall_mem_cons.mpr ⟨⟨ow_Rf_deeper, Or.inl ⟨rfl, iw_8_2, iw_8_3, iw_8_4⟩⟩, List.forall_mem_cons.mpr ⟨⟨ow_Gp_trial, Or.inl ⟨rfl, iw_5_123, iw_5_124, iw_5_125⟩⟩, List.forall_mem_cons.mpr ⟨⟨ow_Rf_trial, Or.inl ⟨rfl, iw_8_6, iw_8_7, iw_8_8⟩⟩, List.forall_mem_cons.mpr ⟨⟨ow_Gp_agrees, Or.inl ⟨rfl, iw_5_139, iw_5_140, iw_5_141⟩⟩, List.forall_mem_cons.mpr ⟨⟨ow_Rf_agrees, Or.inl ⟨rfl, iw_8_10, iw_8_11, iw_8_12⟩⟩, List.forall_mem_cons.mpr ⟨⟨ow_Gp_ours, Or.inl ⟨rfl, iw_5_147, iw_5_148, iw_5_149⟩⟩, List.forall_mem_cons.mpr ⟨⟨ow_Rf_ours, Or.inl ⟨rfl, iw_8_18, iw_8_19, iw_8_20⟩⟩, List.forall_mem_cons.mpr ⟨⟨ow_Gp_look, Or.inl ⟨rfl, iw_5_163, iw_5_164, iw_5_165⟩⟩, List.forall_mem_cons.mpr ⟨⟨ow_Rf_look, Or.inl ⟨rfl, iw_8_26, iw_8_27, iw_8_28⟩⟩, fun _ h => absurd h List.not_mem_nil⟩⟩⟩⟩⟩⟩⟩⟩⟩⟩⟩⟩⟩⟩⟩⟩⟩⟩⟩⟩⟩⟩⟩⟩⟩⟩⟩⟩⟩⟩⟩⟩⟩⟩⟩⟩⟩⟩⟩⟩⟩⟩⟩⟩⟩⟩⟩⟩⟩⟩⟩⟩⟩⟩⟩⟩⟩⟩⟩⟩⟩⟩
set_option maxRecDepth 100000 in
theorem gp_nw13 : ∀ r ∈ gp_nl 13, ∃ q, gp_cl[r.2]? = some q ∧ Cond.classLink "GoldPlateLaw" r.1 q.1 ∈ gp_ws := List.forall_mem_cons.mpr ⟨⟨_, rfl, iw_1_21⟩, List.forall_mem_cons.mpr ⟨⟨_, rfl, iw_5_167⟩, fun _ h => absurd h List.not_mem_nil⟩⟩
set_option maxRecDepth 100000 in
theorem gp_kw15 : ∀ r ∈ gp_kl 15, Cond.constant "java/lang/Integer" r.1 r.2 ∈ gp_ws := List.forall_mem_cons.mpr ⟨iw_5_103, List.forall_mem_cons.mpr ⟨iw_5_104, List.forall_mem_cons.mpr ⟨iw_5_105, fun _ h => absurd h List.not_mem_nil⟩⟩⟩
set_option maxRecDepth 100000 in
theorem gp_mw16 : ∀ r ∈ gp_ml 16, gp_mlp "java/lang/String" r := List.forall_mem_cons.mpr ⟨⟨ow_Js_coder, Or.inl ⟨rfl, iw_3_132, iw_3_133, iw_3_134⟩⟩, List.forall_mem_cons.mpr ⟨⟨ow_Js_isLatin1, Or.inl ⟨rfl, iw_3_142, iw_3_143, iw_3_144⟩⟩, List.forall_mem_cons.mpr ⟨⟨ow_Jl_charAt, Or.inr (Or.inl ⟨rfl, iw_3_146, iw_3_147⟩)⟩, List.forall_mem_cons.mpr ⟨⟨ow_Js_length, Or.inl ⟨rfl, iw_3_198, iw_3_129, iw_3_130⟩⟩, List.forall_mem_cons.mpr ⟨⟨ow_Js_indexOf_d33, Or.inl ⟨rfl, iw_3_194, iw_3_195, iw_3_196⟩⟩, List.forall_mem_cons.mpr ⟨⟨ow_Jl_indexOf, Or.inr (Or.inl ⟨rfl, iw_3_199, iw_3_200⟩)⟩, List.forall_mem_cons.mpr ⟨⟨ow_Jp_checkIndex, Or.inr (Or.inl ⟨rfl, iw_3_154, iw_3_155⟩)⟩, List.forall_mem_cons.mpr ⟨⟨ow_Jp_checkFromToIndex, Or.inr (Or.inl ⟨rfl, iw_3_227, iw_3_228⟩)⟩, fun _ h => absurd h List.not_mem_nil⟩⟩⟩⟩⟩⟩⟩⟩
set_option maxRecDepth 100000 in
theorem gp_mw17 : ∀ r ∈ gp_ml 17, gp_mlp "java/lang/StringLatin1" r := List.forall_mem_cons.mpr ⟨⟨ow_Js_checkIndex, Or.inr (Or.inl ⟨rfl, iw_3_149, iw_3_150⟩)⟩, List.forall_mem_cons.mpr ⟨⟨ow_Jl_canEncode, Or.inr (Or.inl ⟨rfl, iw_3_202, iw_3_203⟩)⟩, List.forall_mem_cons.mpr ⟨⟨ow_Jl_indexOfChar, Or.inr (Or.inl ⟨rfl, iw_3_209, iw_3_210⟩)⟩, fun _ h => absurd h List.not_mem_nil⟩⟩⟩
set_option maxRecDepth 100000 in
theorem gp_xw17 : ∀ r ∈ gp_xl 17, gp_xlp "java/lang/StringLatin1" r := List.forall_mem_cons.mpr ⟨Or.inr (Or.inl ⟨rfl, iw_3_206⟩), List.forall_mem_cons.mpr ⟨Or.inl ⟨rfl, iw_3_205⟩, fun _ h => absurd h List.not_mem_nil⟩⟩
set_option maxRecDepth 100000 in
theorem gp_vw0 : Cond.fieldLink "java/lang/String" 9 "java/lang/String" "value" "[B" ∈ gp_ws := iw_8_30
set_option maxRecDepth 100000 in
theorem gp_vw1 : Cond.fieldLink "java/lang/String" 15 "java/lang/String" "coder" "B" ∈ gp_ws := iw_8_31
set_option maxRecDepth 100000 in
theorem gp_zw0 : Cond.fieldLink "java/lang/String" 38 "java/lang/String" "COMPACT_STRINGS" "Z" ∈ gp_ws := iw_3_136
set_option maxRecDepth 100000 in
theorem gp_zw1 : Cond.fieldLink "java/lang/String" 1053 "jdk/internal/util/Preconditions" "SIOOBE_FORMATTER" "Ljava/util/function/BiFunction;" ∈ gp_ws := iw_3_152
set_option maxRecDepth 100000 in
theorem gp_oi1 : Cond.instanceMethod ⟨"java/lang/Object", "<init>", "()V"⟩ ∈ gp_ws := iw_1_27
set_option maxRecDepth 100000 in
theorem gp_oi2 : Cond.code Lib.objectInit ⟨#[0xb1]⟩ 1 none ∈ gp_ws := iw_1_28
set_option maxRecDepth 100000 in
theorem gp_ms_max : Cond.static Lib.Math.max.name ∈ gp_ws := iw_3_65
set_option maxRecDepth 100000 in
theorem gp_mk_max : Cond.code Lib.Math.max.name Lib.Math.max.code 2 (some .int) ∈ gp_ws := iw_3_66
set_option maxRecDepth 100000 in
theorem gp_ms_min : Cond.static Lib.Math.min.name ∈ gp_ws := iw_3_207
set_option maxRecDepth 100000 in
theorem gp_mk_min : Cond.code Lib.Math.min.name Lib.Math.min.code 2 (some .int) ∈ gp_ws := iw_3_208
set_option maxRecDepth 100000 in
theorem gp_ms_abs : Cond.static Lib.Math.abs.name ∈ gp_ws := iw_4_219
set_option maxRecDepth 100000 in
theorem gp_mk_abs : Cond.code Lib.Math.abs.name Lib.Math.abs.code 1 (some .int) ∈ gp_ws := iw_4_220
set_option maxRecDepth 100000 in
theorem gp_mi_math : Cond.initialized "java/lang/Math" ∈ gp_ws := iw_1_14
set_option maxRecDepth 100000 in
theorem gp_arr_int : Cond.arrayClass .int ∈ gp_ws := iw_1_88
set_option maxRecDepth 100000 in
theorem gp_arr_byte : Cond.arrayClass .byte ∈ gp_ws := iw_2_110
set_option maxRecDepth 100000 in
theorem gp_arr_boolean : Cond.arrayClass .boolean ∈ gp_ws := iw_6_143
set_option maxRecDepth 100000 in
theorem gp_arr_long : Cond.arrayClass .long ∈ gp_ws := iw_2_207
end
section
def gp_cP (ci : Nat) (q : vw_C) : Prop := ∃ ty : Nat → FieldType, gp_tyl[ci]? = some ty ∧ (∀ w ∈ u_ws q.1 q.2.1 q.2.2, w ∈ gp_ws) ∧ (∀ k, k < q.2.2 → parseFieldDescriptor (q.2.1 k).2.2.1 = some (ty k)) ∧ (∀ a, a < q.2.2 → ∀ b, b < q.2.2 → a ≠ b → (q.2.1 a).2.1 ≠ (q.2.1 b).2.1) ∧ (∀ k, k < q.2.2 → defaultValue (ty k) = (gp_df ci).getD k .null) ∧ (∀ k, k < q.2.2 → (q.2.1 k).1 = q.1) ∧ Cond.instantiable q.1 q.2.2 ∈ gp_ws ∧ Cond.initialized q.1 ∈ gp_ws ∧ (gp_df ci).length = q.2.2 ∧ gp_on[ci]? = some q.1
set_option maxRecDepth 100000 in
theorem gp_fA : ∀ (o : Nat) (own : String), gp_on[o]? = some own → ∀ r ∈ gp_fl o, gp_flp own r
  | 0, _, h => by
    cases h
    exact gp_fw0
  | 1, _, h => by
    cases h
    exact gp_fw1
  | 2, _, h => by
    cases h
    exact gp_fw2
  | 3, _, h => by
    cases h
    exact gp_fw3
  | 4, _, h => by
    cases h
    exact gp_fw4
  | 5, _, h => by
    cases h
    exact gp_fw5
  | 6, _, h => by
    cases h
    exact gp_fw6
  | 7, _, h => by
    cases h
    exact gp_fw7
  | 8, _, h => by
    cases h
    exact gp_fw8
  | 9, _, h => by
    cases h
    exact gp_fw9
  | 10, _, h => by
    cases h
    exact gp_fw10
  | 11, _, h => by
    cases h
    exact gp_fw11
  | 12, _, h => by
    cases h
    exact gp_fw12
  | 13, _, h => fun r hr => absurd hr List.not_mem_nil
  | 14, _, h => fun r hr => absurd hr List.not_mem_nil
  | 15, _, h => fun r hr => absurd hr List.not_mem_nil
  | 16, _, h => fun r hr => absurd hr List.not_mem_nil
  | 17, _, h => fun r hr => absurd hr List.not_mem_nil
  | 18, _, h => fun r hr => absurd hr List.not_mem_nil
  | n + 19, _, h => by simp [gp_on] at h
set_option maxRecDepth 100000 in
theorem gp_mA : ∀ (o : Nat) (own : String), gp_on[o]? = some own → ∀ r ∈ gp_ml o, gp_mlp own r
  | 0, _, h => by
    cases h
    exact gp_mw0
  | 1, _, h => by
    cases h
    exact gp_mw1
  | 2, _, h => fun r hr => absurd hr List.not_mem_nil
  | 3, _, h => by
    cases h
    exact gp_mw3
  | 4, _, h => by
    cases h
    exact gp_mw4
  | 5, _, h => by
    cases h
    exact gp_mw5
  | 6, _, h => by
    cases h
    exact gp_mw6
  | 7, _, h => by
    cases h
    exact gp_mw7
  | 8, _, h => by
    cases h
    exact gp_mw8
  | 9, _, h => by
    cases h
    exact gp_mw9
  | 10, _, h => by
    cases h
    exact gp_mw10
  | 11, _, h => by
    cases h
    exact gp_mw11
  | 12, _, h => by
    cases h
    exact gp_mw12
  | 13, _, h => by
    cases h
    exact gp_mw13
  | 14, _, h => fun r hr => absurd hr List.not_mem_nil
  | 15, _, h => fun r hr => absurd hr List.not_mem_nil
  | 16, _, h => by
    cases h
    exact gp_mw16
  | 17, _, h => by
    cases h
    exact gp_mw17
  | 18, _, h => fun r hr => absurd hr List.not_mem_nil
  | n + 19, _, h => by simp [gp_on] at h
set_option maxRecDepth 100000 in
theorem gp_xA : ∀ (o : Nat) (own : String), gp_on[o]? = some own → ∀ r ∈ gp_xl o, gp_xlp own r
  | 0, _, h => fun r hr => absurd hr List.not_mem_nil
  | 1, _, h => by
    cases h
    exact gp_xw1
  | 2, _, h => fun r hr => absurd hr List.not_mem_nil
  | 3, _, h => by
    cases h
    exact gp_xw3
  | 4, _, h => fun r hr => absurd hr List.not_mem_nil
  | 5, _, h => by
    cases h
    exact gp_xw5
  | 6, _, h => by
    cases h
    exact gp_xw6
  | 7, _, h => by
    cases h
    exact gp_xw7
  | 8, _, h => fun r hr => absurd hr List.not_mem_nil
  | 9, _, h => fun r hr => absurd hr List.not_mem_nil
  | 10, _, h => by
    cases h
    exact gp_xw10
  | 11, _, h => fun r hr => absurd hr List.not_mem_nil
  | 12, _, h => fun r hr => absurd hr List.not_mem_nil
  | 13, _, h => fun r hr => absurd hr List.not_mem_nil
  | 14, _, h => fun r hr => absurd hr List.not_mem_nil
  | 15, _, h => fun r hr => absurd hr List.not_mem_nil
  | 16, _, h => fun r hr => absurd hr List.not_mem_nil
  | 17, _, h => by
    cases h
    exact gp_xw17
  | 18, _, h => fun r hr => absurd hr List.not_mem_nil
  | n + 19, _, h => by simp [gp_on] at h
set_option maxRecDepth 100000 in
theorem gp_oA : ∀ (o : Nat) (own : String), gp_on[o]? = some own → ∀ r ∈ gp_ol o, Cond.methodLink own r.1 ⟨"java/lang/Object", "<init>", "()V"⟩ ∈ gp_ws
  | 0, _, h => by
    cases h
    exact gp_ow0
  | 1, _, h => by
    cases h
    exact gp_ow1
  | 2, _, h => by
    cases h
    exact gp_ow2
  | 3, _, h => by
    cases h
    exact gp_ow3
  | 4, _, h => by
    cases h
    exact gp_ow4
  | 5, _, h => by
    cases h
    exact gp_ow5
  | 6, _, h => by
    cases h
    exact gp_ow6
  | 7, _, h => by
    cases h
    exact gp_ow7
  | 8, _, h => by
    cases h
    exact gp_ow8
  | 9, _, h => by
    cases h
    exact gp_ow9
  | 10, _, h => by
    cases h
    exact gp_ow10
  | 11, _, h => by
    cases h
    exact gp_ow11
  | 12, _, h => by
    cases h
    exact gp_ow12
  | 13, _, h => fun r hr => absurd hr List.not_mem_nil
  | 14, _, h => fun r hr => absurd hr List.not_mem_nil
  | 15, _, h => fun r hr => absurd hr List.not_mem_nil
  | 16, _, h => fun r hr => absurd hr List.not_mem_nil
  | 17, _, h => fun r hr => absurd hr List.not_mem_nil
  | 18, _, h => fun r hr => absurd hr List.not_mem_nil
  | n + 19, _, h => by simp [gp_on] at h
set_option maxRecDepth 100000 in
theorem gp_nA : ∀ (o : Nat) (own : String), gp_on[o]? = some own → ∀ r ∈ gp_nl o, ∃ q, gp_cl[r.2]? = some q ∧ Cond.classLink own r.1 q.1 ∈ gp_ws
  | 0, _, h => fun r hr => absurd hr List.not_mem_nil
  | 1, _, h => fun r hr => absurd hr List.not_mem_nil
  | 2, _, h => fun r hr => absurd hr List.not_mem_nil
  | 3, _, h => fun r hr => absurd hr List.not_mem_nil
  | 4, _, h => by
    cases h
    exact gp_nw4
  | 5, _, h => by
    cases h
    exact gp_nw5
  | 6, _, h => fun r hr => absurd hr List.not_mem_nil
  | 7, _, h => fun r hr => absurd hr List.not_mem_nil
  | 8, _, h => fun r hr => absurd hr List.not_mem_nil
  | 9, _, h => fun r hr => absurd hr List.not_mem_nil
  | 10, _, h => fun r hr => absurd hr List.not_mem_nil
  | 11, _, h => by
    cases h
    exact gp_nw11
  | 12, _, h => fun r hr => absurd hr List.not_mem_nil
  | 13, _, h => by
    cases h
    exact gp_nw13
  | 14, _, h => fun r hr => absurd hr List.not_mem_nil
  | 15, _, h => fun r hr => absurd hr List.not_mem_nil
  | 16, _, h => fun r hr => absurd hr List.not_mem_nil
  | 17, _, h => fun r hr => absurd hr List.not_mem_nil
  | 18, _, h => fun r hr => absurd hr List.not_mem_nil
  | n + 19, _, h => by simp [gp_on] at h
set_option maxRecDepth 100000 in
theorem gp_aA : ∀ (o : Nat) (own : String), gp_on[o]? = some own → ∀ r ∈ gp_al o, ∃ q, gp_cl[r.2 - 2]? = some q ∧ (r.2 = 4 ∨ r.2 = 5) ∧ Cond.classLink own r.1 q.1 ∈ gp_ws
  | 0, _, h => fun r hr => absurd hr List.not_mem_nil
  | 1, _, h => fun r hr => absurd hr List.not_mem_nil
  | 2, _, h => fun r hr => absurd hr List.not_mem_nil
  | 3, _, h => fun r hr => absurd hr List.not_mem_nil
  | 4, _, h => by
    cases h
    exact gp_aw4
  | 5, _, h => by
    cases h
    exact gp_aw5
  | 6, _, h => fun r hr => absurd hr List.not_mem_nil
  | 7, _, h => fun r hr => absurd hr List.not_mem_nil
  | 8, _, h => fun r hr => absurd hr List.not_mem_nil
  | 9, _, h => fun r hr => absurd hr List.not_mem_nil
  | 10, _, h => fun r hr => absurd hr List.not_mem_nil
  | 11, _, h => by
    cases h
    exact gp_aw11
  | 12, _, h => fun r hr => absurd hr List.not_mem_nil
  | 13, _, h => fun r hr => absurd hr List.not_mem_nil
  | 14, _, h => fun r hr => absurd hr List.not_mem_nil
  | 15, _, h => fun r hr => absurd hr List.not_mem_nil
  | 16, _, h => fun r hr => absurd hr List.not_mem_nil
  | 17, _, h => fun r hr => absurd hr List.not_mem_nil
  | 18, _, h => fun r hr => absurd hr List.not_mem_nil
  | n + 19, _, h => by simp [gp_on] at h
set_option maxRecDepth 100000 in
theorem gp_kA : ∀ (o : Nat) (own : String), gp_on[o]? = some own → ∀ r ∈ gp_kl o, Cond.constant own r.1 r.2 ∈ gp_ws
  | 0, _, h => fun r hr => absurd hr List.not_mem_nil
  | 1, _, h => fun r hr => absurd hr List.not_mem_nil
  | 2, _, h => fun r hr => absurd hr List.not_mem_nil
  | 3, _, h => fun r hr => absurd hr List.not_mem_nil
  | 4, _, h => fun r hr => absurd hr List.not_mem_nil
  | 5, _, h => fun r hr => absurd hr List.not_mem_nil
  | 6, _, h => fun r hr => absurd hr List.not_mem_nil
  | 7, _, h => fun r hr => absurd hr List.not_mem_nil
  | 8, _, h => fun r hr => absurd hr List.not_mem_nil
  | 9, _, h => fun r hr => absurd hr List.not_mem_nil
  | 10, _, h => fun r hr => absurd hr List.not_mem_nil
  | 11, _, h => by
    cases h
    exact gp_kw11
  | 12, _, h => by
    cases h
    exact gp_kw12
  | 13, _, h => fun r hr => absurd hr List.not_mem_nil
  | 14, _, h => fun r hr => absurd hr List.not_mem_nil
  | 15, _, h => by
    cases h
    exact gp_kw15
  | 16, _, h => fun r hr => absurd hr List.not_mem_nil
  | 17, _, h => fun r hr => absurd hr List.not_mem_nil
  | 18, _, h => fun r hr => absurd hr List.not_mem_nil
  | n + 19, _, h => by simp [gp_on] at h
set_option maxRecDepth 100000 in
theorem gp_LA : ∀ (o : Nat) (own : String), gp_on[o]? = some own → ∀ r ∈ gp_Ll o, Cond.constantLong own r.1 r.2 ∈ gp_ws
  | 0, _, h => fun r hr => absurd hr List.not_mem_nil
  | 1, _, h => fun r hr => absurd hr List.not_mem_nil
  | 2, _, h => fun r hr => absurd hr List.not_mem_nil
  | 3, _, h => fun r hr => absurd hr List.not_mem_nil
  | 4, _, h => fun r hr => absurd hr List.not_mem_nil
  | 5, _, h => fun r hr => absurd hr List.not_mem_nil
  | 6, _, h => fun r hr => absurd hr List.not_mem_nil
  | 7, _, h => by
    cases h
    exact gp_Lw7
  | 8, _, h => fun r hr => absurd hr List.not_mem_nil
  | 9, _, h => fun r hr => absurd hr List.not_mem_nil
  | 10, _, h => fun r hr => absurd hr List.not_mem_nil
  | 11, _, h => fun r hr => absurd hr List.not_mem_nil
  | 12, _, h => by
    cases h
    exact gp_Lw12
  | 13, _, h => fun r hr => absurd hr List.not_mem_nil
  | 14, _, h => fun r hr => absurd hr List.not_mem_nil
  | 15, _, h => fun r hr => absurd hr List.not_mem_nil
  | 16, _, h => fun r hr => absurd hr List.not_mem_nil
  | 17, _, h => fun r hr => absurd hr List.not_mem_nil
  | 18, _, h => fun r hr => absurd hr List.not_mem_nil
  | n + 19, _, h => by simp [gp_on] at h
theorem gp_sw4 : ∀ r ∈ gp_sl 4, ∃ tx, gp_sr[r.2]? = some ("GoldPlate$Parser", r.1, tx) := List.forall_mem_cons.mpr ⟨⟨_, rfl⟩, List.forall_mem_cons.mpr ⟨⟨_, rfl⟩, List.forall_mem_cons.mpr ⟨⟨_, rfl⟩, fun _ h => absurd h List.not_mem_nil⟩⟩⟩
theorem gp_sw12 : ∀ r ∈ gp_sl 12, ∃ tx, gp_sr[r.2]? = some ("GoldPlateModel", r.1, tx) := List.forall_mem_cons.mpr ⟨⟨_, rfl⟩, List.forall_mem_cons.mpr ⟨⟨_, rfl⟩, List.forall_mem_cons.mpr ⟨⟨_, rfl⟩, List.forall_mem_cons.mpr ⟨⟨_, rfl⟩, List.forall_mem_cons.mpr ⟨⟨_, rfl⟩, List.forall_mem_cons.mpr ⟨⟨_, rfl⟩, List.forall_mem_cons.mpr ⟨⟨_, rfl⟩, List.forall_mem_cons.mpr ⟨⟨_, rfl⟩, List.forall_mem_cons.mpr ⟨⟨_, rfl⟩, List.forall_mem_cons.mpr ⟨⟨_, rfl⟩, List.forall_mem_cons.mpr ⟨⟨_, rfl⟩, List.forall_mem_cons.mpr ⟨⟨_, rfl⟩, List.forall_mem_cons.mpr ⟨⟨_, rfl⟩, List.forall_mem_cons.mpr ⟨⟨_, rfl⟩, List.forall_mem_cons.mpr ⟨⟨_, rfl⟩, List.forall_mem_cons.mpr ⟨⟨_, rfl⟩, List.forall_mem_cons.mpr ⟨⟨_, rfl⟩, List.forall_mem_cons.mpr ⟨⟨_, rfl⟩, List.forall_mem_cons.mpr ⟨⟨_, rfl⟩, List.forall_mem_cons.mpr ⟨⟨_, rfl⟩, List.forall_mem_cons.mpr ⟨⟨_, rfl⟩, List.forall_mem_cons.mpr ⟨⟨_, rfl⟩, fun _ h => absurd h List.not_mem_nil⟩⟩⟩⟩⟩⟩⟩⟩⟩⟩⟩⟩⟩⟩⟩⟩⟩⟩⟩⟩⟩⟩
set_option maxRecDepth 100000 in
theorem gp_sA : ∀ (o : Nat) (own : String), gp_on[o]? = some own → ∀ r ∈ gp_sl o, ∃ tx, gp_sr[r.2]? = some (own, r.1, tx)
  | 0, _, h => fun r hr => absurd hr List.not_mem_nil
  | 1, _, h => fun r hr => absurd hr List.not_mem_nil
  | 2, _, h => fun r hr => absurd hr List.not_mem_nil
  | 3, _, h => fun r hr => absurd hr List.not_mem_nil
  | 4, _, h => by
    cases h
    exact gp_sw4
  | 5, _, h => fun r hr => absurd hr List.not_mem_nil
  | 6, _, h => fun r hr => absurd hr List.not_mem_nil
  | 7, _, h => fun r hr => absurd hr List.not_mem_nil
  | 8, _, h => fun r hr => absurd hr List.not_mem_nil
  | 9, _, h => fun r hr => absurd hr List.not_mem_nil
  | 10, _, h => fun r hr => absurd hr List.not_mem_nil
  | 11, _, h => fun r hr => absurd hr List.not_mem_nil
  | 12, _, h => by
    cases h
    exact gp_sw12
  | 13, _, h => fun r hr => absurd hr List.not_mem_nil
  | 14, _, h => fun r hr => absurd hr List.not_mem_nil
  | 15, _, h => fun r hr => absurd hr List.not_mem_nil
  | 16, _, h => fun r hr => absurd hr List.not_mem_nil
  | 17, _, h => fun r hr => absurd hr List.not_mem_nil
  | 18, _, h => fun r hr => absurd hr List.not_mem_nil
  | n + 19, _, h => by simp [gp_on] at h
theorem gp_zw16 : ∀ r ∈ gp_zl 16, (r.2 = 0 ∧ Cond.fieldLink "java/lang/String" r.1 "java/lang/String" "COMPACT_STRINGS" "Z" ∈ gp_ws) ∨ (r.2 = 1 ∧ Cond.fieldLink "java/lang/String" r.1 "jdk/internal/util/Preconditions" "SIOOBE_FORMATTER" "Ljava/util/function/BiFunction;" ∈ gp_ws) := List.forall_mem_cons.mpr ⟨Or.inl ⟨rfl, gp_zw0⟩, List.forall_mem_cons.mpr ⟨Or.inr ⟨rfl, gp_zw1⟩, fun _ h => absurd h List.not_mem_nil⟩⟩
theorem gp_vw16 : ∀ r ∈ gp_vl 16, (r.2 = 0 ∧ Cond.fieldLink "java/lang/String" r.1 "java/lang/String" "value" "[B" ∈ gp_ws) ∨ (r.2 = 1 ∧ Cond.fieldLink "java/lang/String" r.1 "java/lang/String" "coder" "B" ∈ gp_ws) := List.forall_mem_cons.mpr ⟨Or.inl ⟨rfl, gp_vw0⟩, List.forall_mem_cons.mpr ⟨Or.inr ⟨rfl, gp_vw1⟩, fun _ h => absurd h List.not_mem_nil⟩⟩
set_option maxRecDepth 100000 in
theorem gp_zA : ∀ (o : Nat) (own : String), gp_on[o]? = some own → ∀ r ∈ gp_zl o, (r.2 = 0 ∧ Cond.fieldLink own r.1 "java/lang/String" "COMPACT_STRINGS" "Z" ∈ gp_ws) ∨ (r.2 = 1 ∧ Cond.fieldLink own r.1 "jdk/internal/util/Preconditions" "SIOOBE_FORMATTER" "Ljava/util/function/BiFunction;" ∈ gp_ws)
  | 0, _, h => fun r hr => absurd hr List.not_mem_nil
  | 1, _, h => fun r hr => absurd hr List.not_mem_nil
  | 2, _, h => fun r hr => absurd hr List.not_mem_nil
  | 3, _, h => fun r hr => absurd hr List.not_mem_nil
  | 4, _, h => fun r hr => absurd hr List.not_mem_nil
  | 5, _, h => fun r hr => absurd hr List.not_mem_nil
  | 6, _, h => fun r hr => absurd hr List.not_mem_nil
  | 7, _, h => fun r hr => absurd hr List.not_mem_nil
  | 8, _, h => fun r hr => absurd hr List.not_mem_nil
  | 9, _, h => fun r hr => absurd hr List.not_mem_nil
  | 10, _, h => fun r hr => absurd hr List.not_mem_nil
  | 11, _, h => fun r hr => absurd hr List.not_mem_nil
  | 12, _, h => fun r hr => absurd hr List.not_mem_nil
  | 13, _, h => fun r hr => absurd hr List.not_mem_nil
  | 14, _, h => fun r hr => absurd hr List.not_mem_nil
  | 15, _, h => fun r hr => absurd hr List.not_mem_nil
  | 16, _, h => by
    cases h
    exact gp_zw16
  | 17, _, h => fun r hr => absurd hr List.not_mem_nil
  | 18, _, h => fun r hr => absurd hr List.not_mem_nil
  | n + 19, _, h => by simp [gp_on] at h
set_option maxRecDepth 100000 in
theorem gp_vA : ∀ (o : Nat) (own : String), gp_on[o]? = some own → ∀ r ∈ gp_vl o, (r.2 = 0 ∧ Cond.fieldLink own r.1 "java/lang/String" "value" "[B" ∈ gp_ws) ∨ (r.2 = 1 ∧ Cond.fieldLink own r.1 "java/lang/String" "coder" "B" ∈ gp_ws)
  | 0, _, h => fun r hr => absurd hr List.not_mem_nil
  | 1, _, h => fun r hr => absurd hr List.not_mem_nil
  | 2, _, h => fun r hr => absurd hr List.not_mem_nil
  | 3, _, h => fun r hr => absurd hr List.not_mem_nil
  | 4, _, h => fun r hr => absurd hr List.not_mem_nil
  | 5, _, h => fun r hr => absurd hr List.not_mem_nil
  | 6, _, h => fun r hr => absurd hr List.not_mem_nil
  | 7, _, h => fun r hr => absurd hr List.not_mem_nil
  | 8, _, h => fun r hr => absurd hr List.not_mem_nil
  | 9, _, h => fun r hr => absurd hr List.not_mem_nil
  | 10, _, h => fun r hr => absurd hr List.not_mem_nil
  | 11, _, h => fun r hr => absurd hr List.not_mem_nil
  | 12, _, h => fun r hr => absurd hr List.not_mem_nil
  | 13, _, h => fun r hr => absurd hr List.not_mem_nil
  | 14, _, h => fun r hr => absurd hr List.not_mem_nil
  | 15, _, h => fun r hr => absurd hr List.not_mem_nil
  | 16, _, h => by
    cases h
    exact gp_vw16
  | 17, _, h => fun r hr => absurd hr List.not_mem_nil
  | 18, _, h => fun r hr => absurd hr List.not_mem_nil
  | n + 19, _, h => by simp [gp_on] at h
theorem gp_cty0 : ∀ k, k < 2 → parseFieldDescriptor (gp_T0 k).2.2.1 = some (gp_t0 k) := by decide +kernel
theorem gp_cnm0 : ∀ a, a < 2 → ∀ b, b < 2 → a ≠ b → (gp_T0 a).2.1 ≠ (gp_T0 b).2.1 := by decide +kernel
theorem gp_cdf0 : ∀ k, k < 2 → defaultValue (gp_t0 k) = (gp_df 0).getD k .null := by decide +kernel
theorem gp_cow0 : ∀ k, k < 2 → (gp_T0 k).1 = "GoldPlate$BitRow" := by decide +kernel
theorem gp_cA0 : gp_cP 0 ("GoldPlate$BitRow", gp_T0, 2) := ⟨gp_t0, rfl, gp_cin0, gp_cty0, gp_cnm0, gp_cdf0, gp_cow0, gp_cins0, gp_cini0, rfl, rfl⟩
theorem gp_cty1 : ∀ k, k < 12 → parseFieldDescriptor (gp_T1 k).2.2.1 = some (gp_t1 k) := by decide +kernel
theorem gp_cnm1 : ∀ a, a < 12 → ∀ b, b < 12 → a ≠ b → (gp_T1 a).2.1 ≠ (gp_T1 b).2.1 := by decide +kernel
theorem gp_cdf1 : ∀ k, k < 12 → defaultValue (gp_t1 k) = (gp_df 1).getD k .null := by decide +kernel
theorem gp_cow1 : ∀ k, k < 12 → (gp_T1 k).1 = "GoldPlate$Chooser" := by decide +kernel
theorem gp_cA1 : gp_cP 1 ("GoldPlate$Chooser", gp_T1, 12) := ⟨gp_t1, rfl, gp_cin1, gp_cty1, gp_cnm1, gp_cdf1, gp_cow1, gp_cins1, gp_cini1, rfl, rfl⟩
theorem gp_cty2 : ∀ k, k < 9 → parseFieldDescriptor (gp_T2 k).2.2.1 = some (gp_t2 k) := by decide +kernel
theorem gp_cnm2 : ∀ a, a < 9 → ∀ b, b < 9 → a ≠ b → (gp_T2 a).2.1 ≠ (gp_T2 b).2.1 := by decide +kernel
theorem gp_cdf2 : ∀ k, k < 9 → defaultValue (gp_t2 k) = (gp_df 2).getD k .null := by decide +kernel
theorem gp_cow2 : ∀ k, k < 9 → (gp_T2 k).1 = "GoldPlate$Mark" := by decide +kernel
theorem gp_cA2 : gp_cP 2 ("GoldPlate$Mark", gp_T2, 9) := ⟨gp_t2, rfl, gp_cin2, gp_cty2, gp_cnm2, gp_cdf2, gp_cow2, gp_cins2, gp_cini2, rfl, rfl⟩
theorem gp_cty3 : ∀ k, k < 14 → parseFieldDescriptor (gp_T3 k).2.2.1 = some (gp_t3 k) := by decide +kernel
theorem gp_cnm3 : ∀ a, a < 14 → ∀ b, b < 14 → a ≠ b → (gp_T3 a).2.1 ≠ (gp_T3 b).2.1 := by decide +kernel
theorem gp_cdf3 : ∀ k, k < 14 → defaultValue (gp_t3 k) = (gp_df 3).getD k .null := by decide +kernel
theorem gp_cow3 : ∀ k, k < 14 → (gp_T3 k).1 = "GoldPlate$Mind" := by decide +kernel
theorem gp_cA3 : gp_cP 3 ("GoldPlate$Mind", gp_T3, 14) := ⟨gp_t3, rfl, gp_cin3, gp_cty3, gp_cnm3, gp_cdf3, gp_cow3, gp_cins3, gp_cini3, rfl, rfl⟩
theorem gp_cty4 : ∀ k, k < 10 → parseFieldDescriptor (gp_T4 k).2.2.1 = some (gp_t4 k) := by decide +kernel
theorem gp_cnm4 : ∀ a, a < 10 → ∀ b, b < 10 → a ≠ b → (gp_T4 a).2.1 ≠ (gp_T4 b).2.1 := by decide +kernel
theorem gp_cdf4 : ∀ k, k < 10 → defaultValue (gp_t4 k) = (gp_df 4).getD k .null := by decide +kernel
theorem gp_cow4 : ∀ k, k < 10 → (gp_T4 k).1 = "GoldPlate$Parser" := by decide +kernel
theorem gp_cA4 : gp_cP 4 ("GoldPlate$Parser", gp_T4, 10) := ⟨gp_t4, rfl, gp_cin4, gp_cty4, gp_cnm4, gp_cdf4, gp_cow4, gp_cins4, gp_cini4, rfl, rfl⟩
theorem gp_cty5 : ∀ k, k < 5 → parseFieldDescriptor (gp_T5 k).2.2.1 = some (gp_t5 k) := by decide +kernel
theorem gp_cnm5 : ∀ a, a < 5 → ∀ b, b < 5 → a ≠ b → (gp_T5 a).2.1 ≠ (gp_T5 b).2.1 := by decide +kernel
theorem gp_cdf5 : ∀ k, k < 5 → defaultValue (gp_t5 k) = (gp_df 5).getD k .null := by decide +kernel
theorem gp_cow5 : ∀ k, k < 5 → (gp_T5 k).1 = "GoldPlate$Plate" := by decide +kernel
theorem gp_cA5 : gp_cP 5 ("GoldPlate$Plate", gp_T5, 5) := ⟨gp_t5, rfl, gp_cin5, gp_cty5, gp_cnm5, gp_cdf5, gp_cow5, gp_cins5, gp_cini5, rfl, rfl⟩
theorem gp_cty6 : ∀ k, k < 13 → parseFieldDescriptor (gp_T6 k).2.2.1 = some (gp_t6 k) := by decide +kernel
theorem gp_cnm6 : ∀ a, a < 13 → ∀ b, b < 13 → a ≠ b → (gp_T6 a).2.1 ≠ (gp_T6 b).2.1 := by decide +kernel
theorem gp_cdf6 : ∀ k, k < 13 → defaultValue (gp_t6 k) = (gp_df 6).getD k .null := by decide +kernel
theorem gp_cow6 : ∀ k, k < 13 → (gp_T6 k).1 = "GoldPlate$Search" := by decide +kernel
theorem gp_cA6 : gp_cP 6 ("GoldPlate$Search", gp_T6, 13) := ⟨gp_t6, rfl, gp_cin6, gp_cty6, gp_cnm6, gp_cdf6, gp_cow6, gp_cins6, gp_cini6, rfl, rfl⟩
theorem gp_cty7 : ∀ k, k < 13 → parseFieldDescriptor (gp_T7 k).2.2.1 = some (gp_t7 k) := by decide +kernel
theorem gp_cnm7 : ∀ a, a < 13 → ∀ b, b < 13 → a ≠ b → (gp_T7 a).2.1 ≠ (gp_T7 b).2.1 := by decide +kernel
theorem gp_cdf7 : ∀ k, k < 13 → defaultValue (gp_t7 k) = (gp_df 7).getD k .null := by decide +kernel
theorem gp_cow7 : ∀ k, k < 13 → (gp_T7 k).1 = "GoldPlate$Sky" := by decide +kernel
theorem gp_cA7 : gp_cP 7 ("GoldPlate$Sky", gp_T7, 13) := ⟨gp_t7, rfl, gp_cin7, gp_cty7, gp_cnm7, gp_cdf7, gp_cow7, gp_cins7, gp_cini7, rfl, rfl⟩
theorem gp_cty8 : ∀ k, k < 3 → parseFieldDescriptor (gp_T8 k).2.2.1 = some (gp_t8 k) := by decide +kernel
theorem gp_cnm8 : ∀ a, a < 3 → ∀ b, b < 3 → a ≠ b → (gp_T8 a).2.1 ≠ (gp_T8 b).2.1 := by decide +kernel
theorem gp_cdf8 : ∀ k, k < 3 → defaultValue (gp_t8 k) = (gp_df 8).getD k .null := by decide +kernel
theorem gp_cow8 : ∀ k, k < 3 → (gp_T8 k).1 = "GoldPlate$Sums" := by decide +kernel
theorem gp_cA8 : gp_cP 8 ("GoldPlate$Sums", gp_T8, 3) := ⟨gp_t8, rfl, gp_cin8, gp_cty8, gp_cnm8, gp_cdf8, gp_cow8, gp_cins8, gp_cini8, rfl, rfl⟩
theorem gp_cty9 : ∀ k, k < 4 → parseFieldDescriptor (gp_T9 k).2.2.1 = some (gp_t9 k) := by decide +kernel
theorem gp_cnm9 : ∀ a, a < 4 → ∀ b, b < 4 → a ≠ b → (gp_T9 a).2.1 ≠ (gp_T9 b).2.1 := by decide +kernel
theorem gp_cdf9 : ∀ k, k < 4 → defaultValue (gp_t9 k) = (gp_df 9).getD k .null := by decide +kernel
theorem gp_cow9 : ∀ k, k < 4 → (gp_T9 k).1 = "GoldPlate$Trials" := by decide +kernel
theorem gp_cA9 : gp_cP 9 ("GoldPlate$Trials", gp_T9, 4) := ⟨gp_t9, rfl, gp_cin9, gp_cty9, gp_cnm9, gp_cdf9, gp_cow9, gp_cins9, gp_cini9, rfl, rfl⟩
theorem gp_cty10 : ∀ k, k < 3 → parseFieldDescriptor (gp_T10 k).2.2.1 = some (gp_t10 k) := by decide +kernel
theorem gp_cnm10 : ∀ a, a < 3 → ∀ b, b < 3 → a ≠ b → (gp_T10 a).2.1 ≠ (gp_T10 b).2.1 := by decide +kernel
theorem gp_cdf10 : ∀ k, k < 3 → defaultValue (gp_t10 k) = (gp_df 10).getD k .null := by decide +kernel
theorem gp_cow10 : ∀ k, k < 3 → (gp_T10 k).1 = "GoldPlate$Widths" := by decide +kernel
theorem gp_cA10 : gp_cP 10 ("GoldPlate$Widths", gp_T10, 3) := ⟨gp_t10, rfl, gp_cin10, gp_cty10, gp_cnm10, gp_cdf10, gp_cow10, gp_cins10, gp_cini10, rfl, rfl⟩
theorem gp_cty11 : ∀ k, k < 13 → parseFieldDescriptor (gp_T11 k).2.2.1 = some (gp_t11 k) := by decide +kernel
theorem gp_cnm11 : ∀ a, a < 13 → ∀ b, b < 13 → a ≠ b → (gp_T11 a).2.1 ≠ (gp_T11 b).2.1 := by decide +kernel
theorem gp_cdf11 : ∀ k, k < 13 → defaultValue (gp_t11 k) = (gp_df 11).getD k .null := by decide +kernel
theorem gp_cow11 : ∀ k, k < 13 → (gp_T11 k).1 = "GoldPlate" := by decide +kernel
theorem gp_cA11 : gp_cP 11 ("GoldPlate", gp_T11, 13) := ⟨gp_t11, rfl, gp_cin11, gp_cty11, gp_cnm11, gp_cdf11, gp_cow11, gp_cins11, gp_cini11, rfl, rfl⟩
theorem gp_cty12 : ∀ k, k < 70 → parseFieldDescriptor (gp_T12 k).2.2.1 = some (gp_t12 k) := by decide +kernel
theorem gp_cnm12 : ∀ a, a < 70 → ∀ b, b < 70 → a ≠ b → (gp_T12 a).2.1 ≠ (gp_T12 b).2.1 := by decide +kernel
theorem gp_cdf12 : ∀ k, k < 70 → defaultValue (gp_t12 k) = (gp_df 12).getD k .null := by decide +kernel
theorem gp_cow12 : ∀ k, k < 70 → (gp_T12 k).1 = "GoldPlateModel" := by decide +kernel
theorem gp_cA12 : gp_cP 12 ("GoldPlateModel", gp_T12, 70) := ⟨gp_t12, rfl, gp_cin12, gp_cty12, gp_cnm12, gp_cdf12, gp_cow12, gp_cins12, gp_cini12, rfl, rfl⟩
set_option maxRecDepth 100000 in
theorem gp_cA : ∀ (ci : Nat) (q : vw_C), gp_cl[ci]? = some q → gp_cP ci q
  | 0, _, h => by
    cases h
    exact gp_cA0
  | 1, _, h => by
    cases h
    exact gp_cA1
  | 2, _, h => by
    cases h
    exact gp_cA2
  | 3, _, h => by
    cases h
    exact gp_cA3
  | 4, _, h => by
    cases h
    exact gp_cA4
  | 5, _, h => by
    cases h
    exact gp_cA5
  | 6, _, h => by
    cases h
    exact gp_cA6
  | 7, _, h => by
    cases h
    exact gp_cA7
  | 8, _, h => by
    cases h
    exact gp_cA8
  | 9, _, h => by
    cases h
    exact gp_cA9
  | 10, _, h => by
    cases h
    exact gp_cA10
  | 11, _, h => by
    cases h
    exact gp_cA11
  | 12, _, h => by
    cases h
    exact gp_cA12
  | n + 13, _, h => by simp [gp_cl] at h
end
section
/-! ===== the small machine's steps are the large one's ===== -/
theorem gp_N.same {G : gp_G} {U U' : State} {H : Heap} (hv : U'.vm = U.vm) (h : gp_N G U H) : gp_N G U' H := by
  obtain ⟨h1, h2, h3, h4, h5, h6, h7⟩ := h
  have ha : U.vm.Alike U'.vm := by rw [hv]; exact Vm.Alike.refl U.vm
  refine ⟨fun q hq => va_Nw.same rfl hv.symm (h1 q hq), h2.moved ha, h3.moved ha, fun i q hq => (h4 i q hq).same hv, h5.moved ha, h6.moved ha, ?_⟩
  rcases h7 with h7 | h7
  · exact Or.inl (h7.moved ha)
  · exact Or.inr (h7.moved ha)
theorem gp_N.go {G : gp_G} {s U : State} {locs : List Loc} (h : gp_N G s s.heap) (hW : s.WarmedH U.vm) (hS : va_S (gp_A G) s.heap U.heap locs) : gp_N G U U.heap := by
  obtain ⟨h1, h2, h3, h4, h5, h6, h7⟩ := h
  have ha : s.vm.Alike U.vm := hW.alike
  refine ⟨fun q hq => va_Nw.warmM hW (h1 q hq), h2.moved ha, h3.moved ha, fun i q hq => (h4 i q hq).warm hW, (h5.moved ha).kept hS.2.1, (h6.moved ha).kept hS.2.1, ?_⟩
  rcases h7 with h7 | h7
  · exact Or.inl ((h7.moved ha).kept hS.2.1)
  · exact Or.inr ((h7.moved ha).kept hS.2.1)
theorem gp_blind (G : gp_G) (as : List Value) (V : gp_H) : FrameBlind (gp_Pre G as V) := by
  intro a U g mk h
  obtain ⟨h0, h1, h2, h3, h4⟩ := h
  exact ⟨h0, h1, h2, va_K.moved (u := U) (U := U.calling g mk a) (Vm.Alike.refl U.vm) h3, gp_N.same (U := U) (U' := U.calling g mk a) rfl h4⟩
theorem gp_good (M : gp_M) (h : gp_okp M) : GoodIn gp_ws (gp_wM M) := by
  intro w hw
  have hm : w ∈ gp_ws := by
    rcases List.mem_cons.mp hw with rfl | hw
    · exact h.2.1
    · exact hw
  exact ⟨hm, good_of_word (List.mem_filter.mp hm).2⟩
/-- what stays through a method's walk -/
def gp_F (G : gp_G) (M : gp_M) (p : Program) (s : State) (m : MethodId) (args : Array Value) (meth : Method) (c : Code) : Prop :=
  p.tables.exec = Jvm.exec ∧ c.code = M.2.1 ∧ c.maxLocals = M.2.2.1 ∧ meth.sig.returnType = M.2.2.2.1 ∧ meth.locks = false ∧ s.vm.findClass M.1.cls = some m.cls ∧ meth.name = M.1.name ∧ (∀ w ∈ gp_ws, w.before args s = true) ∧ va_K G.2.1 gp_cl (gp_tl G) s ∧ gp_N G s s.heap ∧ G.1 ≤ s.heap.size
/-- what moves -/
def gp_D (G : gp_G) (M : gp_M) (s : State) (V : gp_H) (H : Heap) (locs : List Loc) (la : Array Slot) (ls : List (Option Value)) (cs ss : Nat) : Prop :=
  s.heap.size + cs = G.1 + V.length ∧ H.size = G.1 + V.length ∧ va_P G.2.1 gp_cl (gp_cc G V) H ∧ va_S (gp_A G) s.heap H locs ∧ gp_lr G la M.2.2.1 ls ∧ cs ≤ gp_mc M ∧ ss ≤ gp_ms M
def gp_Go (l : Launch) (G : gp_G) (d : Nat) (M : gp_M) (K : Option Value → gp_H → Prop) : gp_K := fun pc ls st V cs ss =>
  ∀ (p : Program) (e : Env) (s : State) (m : MethodId) (args : Array Value) (below : List Frame) (meth : Method) (c : Code) (H : Heap) (locs : List Loc) (la : Array Slot), gp_F G M p s m args meth c → gp_D G M s V H locs la ls cs ss →
    W p l e (gp_rm d M) s m args below meth c H locs cs ss (MQ below (gp_Post G (gp_mc M) K) args s (gp_mc M) (gp_ms M) (gp_A G)) (F0 m pc la (st.map (gp_mv G)))
def gp_okd (M : gp_M) : Prop := plainName M.1.cls = true ∧ ((gp_cd M).all (fun q => decide (decode M.2.1 q.1 = .ok q.2))) = true ∧ gp_okp M
theorem gp_okd.at {M : gp_M} (h : gp_okd M) {pc : Nat} {i : Instr} {len : Nat} (h0 : gp_lk (gp_cd M) pc = some (i, len)) : decode M.2.1 pc = .ok (i, len) := by
  have h1 := List.all_eq_true.mp h.2.1 _ (gp_lk_mem h0)
  exact of_decide_eq_true h1
section GS
variable {p : Program} {l : Launch} {e : Env} {R : Room} {s : State} {m : MethodId} {args : Array Value} {below : List Frame} {meth : Method} {c : Code} {H H1 : Heap} {locs locs1 : List Loc} {cs ss : Nat} {Q : State → Prop} {G : gp_G} {V V1 : gp_H} {g : JFrame}
/-- the heap's size: no more than was made, no less than our cells -/
theorem gp_szW (hbs : G.1 ≤ s.heap.size) (hcs : s.heap.size + cs = G.1 + V.length) (hP : va_P G.2.1 gp_cl (gp_cc G V) H1) (hS : va_S (gp_A G) s.heap H1 locs1) (kk : H1.size = G.1 + V.length → W p l e R s m args below meth c H1 locs1 cs ss Q g) : W p l e R s m args below meth c H1 locs1 cs ss Q g := by
  intro T hT X
  have h1 := X.heapSize
  rw [hT] at h1
  have h2 : G.1 + V.length ≤ H1.size := by
    rcases Nat.eq_zero_or_pos V.length with h0 | h0
    · have := hS.1
      omega
    · obtain ⟨e, he⟩ : ∃ e, V[V.length - 1]? = some e := ⟨V[V.length - 1], List.getElem?_eq_getElem (by omega)⟩
      have h3 : G.1 + (V.length - 1) < H1.size := (hP _ _ (gp_cc_at he)).lt
      omega
  exact kk (by omega) T hT X
/-- a new cell lies behind ours -/
theorem gp_newW {q : Nat} {x : va_E} (hcs : s.heap.size + cs = G.1 + V.length) (hP : va_P G.2.1 gp_cl (gp_cc G V ++ [(q, x)]) H1) (hD : va_D (gp_A G) (gp_cc G V ++ [(q, x)])) (kk : q = G.1 + V.length → H1.size = G.1 + V.length + 1 → W p l e R s m args below meth c H1 locs1 (cs + 1) ss Q g) : W p l e R s m args below meth c H1 locs1 (cs + 1) ss Q g := by
  intro T hT X
  have h1 := X.heapSize
  rw [hT] at h1
  have hq : (gp_cc G V ++ [(q, x)])[V.length]? = some (q, x) := by
    rw [List.getElem?_append_right (by rw [gp_cc_len]; exact Nat.le_refl _), gp_cc_len, Nat.sub_self]
    rfl
  have h2 : q < H1.size := (hP _ _ hq).lt
  have h3 : G.1 ≤ q := hD.2 _ _ hq
  have h4 : ¬ q < G.1 + V.length := by
    intro h
    obtain ⟨e, he⟩ : ∃ e, V[q - G.1]? = some e := ⟨V[q - G.1], List.getElem?_eq_getElem (by omega)⟩
    have h5 : (gp_cc G V ++ [(q, x)])[q - G.1]? = some (G.1 + (q - G.1), gp_ce G e) := by
      rw [List.getElem?_append_left (by rw [gp_cc_len]; omega)]
      exact gp_cc_at he
    have h6 := hD.1 _ _ _ _ h5 hq (show G.1 + (q - G.1) = q by omega)
    omega
  exact kk (by omega) (by omega) T hT X
/-- behind a call -/
theorem gp_callW {mc ms pc : Nat} {la : Array Slot} {st0 : List Value} {rest : List Value} {Kc : Option Value → gp_H → Prop} {a : Array Value} (hr : va_Run p l e R s m args below meth c H locs cs ss mc ms (F0 m pc la st0) (rest.map (gp_mv G)) (gp_Post G mc Kc a) (gp_A G)) (hS : va_S (gp_A G) s.heap H locs) (hsz : H.size = G.1 + V.length)
    (kk : ∀ (r : Option Value) (V' : gp_H) (H1 : Heap) (locs1 : List Loc), Kc r V' → H1.size = G.1 + V'.length → V'.length = V.length + mc → va_P G.2.1 gp_cl (gp_cc G V') H1 → va_S (gp_A G) s.heap H1 locs1 → W p l e R s m args below meth c H1 locs1 (cs + mc) (ss + ms) Q (F0 m (pc + 3) la ((r.toList ++ rest).map (gp_mv G)))) : W p l e R s m args below meth c H locs cs ss Q (F0 m pc la st0) := by
  intro T hT X
  obtain ⟨v, st₀, t, T', L, h0, X', hL, e1, e2, ⟨⟨r, V', hv, hk, hz, hp⟩, hz2, hF⟩, st⟩ := hr T hT X
  have hv : v = r.map (gp_mv G) := by injection hv
  subst hv
  obtain ⟨hF1, hF2⟩ := hF
  rw [h0] at hz2 hF1 hF2
  obtain ⟨t2, a1, b1⟩ := kk r V' T'.heap (locs ++ L) hk (by rw [e1]; exact hz) (by omega) (by rw [e1]; exact hp)
    ⟨Nat.le_trans hS.1 (by rw [e1]; exact hF1), fun q h1 h2 => by rw [e1, hF2 q (Nat.lt_of_lt_of_le h1 hS.1) h2]; exact hS.2.1 q h1 h2, fun q hq => by
      rcases List.mem_append.mp hq with h | h
      · exact hS.2.2 q h
      · exact hL q h⟩ T' rfl X'
  refine ⟨t2, st t2 ?_, b1⟩
  have e3 : (r.map (gp_mv G)).toList ++ rest.map (gp_mv G) = (r.toList ++ rest).map (gp_mv G) := by cases r <;> simp
  show Steps p.tables e below (T'.setTop { (F0 m pc la st0) with pc := pc + 3, stack := (r.map (gp_mv G)).toList ++ rest.map (gp_mv G) }) t2
  rw [e3]
  exact a1
end GS
theorem gp_pre {G : gp_G} {s : State} {H : Heap} {locs : List Loc} {V : gp_H} {as : List Value} (hK : va_K G.2.1 gp_cl (gp_tl G) s) (hN : gp_N G s s.heap) (hsz : H.size = G.1 + V.length) (hP : va_P G.2.1 gp_cl (gp_cc G V) H) (hS : va_S (gp_A G) s.heap H locs) : ∀ U : State, U.heap = H → s.WarmedH U.vm → gp_Pre G as V (as.map (gp_mv G)).toArray U := by
  intro U hU hW
  subst hU
  exact ⟨rfl, hsz, hP, va_K.moved hW.alike hK, hN.go hW hS⟩
end
section
/-! ===== one step ===== -/
theorem gp_D.ls {G : gp_G} {M : gp_M} {s : State} {V : gp_H} {H : Heap} {locs : List Loc} {la la' : Array Slot} {ls ls' : List (Option Value)} {cs ss : Nat} (D : gp_D G M s V H locs la ls cs ss) (h : gp_lr G la' M.2.2.1 ls') : gp_D G M s V H locs la' ls' cs ss :=
  ⟨D.1, D.2.1, D.2.2.1, D.2.2.2.1, h, D.2.2.2.2.2.1, D.2.2.2.2.2.2⟩
theorem gp_D.hp {G : gp_G} {M : gp_M} {s : State} {V V' : gp_H} {H H1 : Heap} {locs locs1 : List Loc} {la : Array Slot} {ls : List (Option Value)} {cs ss : Nat} (D : gp_D G M s V H locs la ls cs ss) (hz : H1.size = G.1 + V'.length) (he : V'.length = V.length) (hP : va_P G.2.1 gp_cl (gp_cc G V') H1) (hS : va_S (gp_A G) s.heap H1 locs1) : gp_D G M s V' H1 locs1 la ls cs ss :=
  ⟨by rw [he]; exact D.1, hz, hP, hS, D.2.2.2.2.1, D.2.2.2.2.2.1, D.2.2.2.2.2.2⟩
theorem gp_pv_e {t : Nat} {w : Value} {P : Prop} {ty : FieldType} {G : gp_G} (h : gp_pv t w P) (ht : gp_tg ty = t) : narrow ty (gp_mv G w) = gp_mv G w ∧ fits ty (gp_mv G w) = true ∧ P := by
  unfold gp_pv at h
  split at h
  · cases ty <;> simp [gp_tg] at ht <;> exact ⟨rfl, rfl, h⟩
  · rename_i x
    obtain ⟨h1, h⟩ := h
    cases ty <;> simp [gp_tg] at ht
    rcases h1 with rfl | rfl <;> exact ⟨rfl, rfl, h⟩
  · cases ty <;> simp [gp_tg] at ht <;> exact ⟨rfl, rfl, h⟩
  · cases ty <;> simp [gp_tg] at ht <;> exact ⟨rfl, rfl, h⟩
  · exact h.elim
section GO
variable {l : Launch} {G : gp_G} {d : Nat} {M : gp_M} {K : Option Value → gp_H → Prop} {pc : Nat} {ls : List (Option Value)} {st : List Value} {V : gp_H} {cs ss : Nat}
variable {p : Program} {e : Env} {s : State} {m : MethodId} {args : Array Value} {below : List Frame} {meth : Method} {c : Code} {H : Heap} {locs : List Loc} {la : Array Slot}
abbrev gp_T (l : Launch) (G : gp_G) (d : Nat) (M : gp_M) (K : Option Value → gp_H → Prop) (pc : Nat) (st : List Value) (cs ss : Nat) (p : Program) (e : Env) (s : State) (m : MethodId) (args : Array Value) (below : List Frame) (meth : Method) (c : Code) (H : Heap) (locs : List Loc) (la : Array Slot) : Prop := W p l e (gp_rm d M) s m args below meth c H locs cs ss (MQ below (gp_Post G (gp_mc M) K) args s (gp_mc M) (gp_ms M) (gp_A G)) (F0 m pc la (st.map (gp_mv G)))
theorem gs_getfield {idx : Nat} (hok : gp_okd M) (F : gp_F G M p s m args meth c) (D : gp_D G M s V H locs la ls cs ss) {len : Nat} (hdg : decode M.2.1 pc = .ok (.getfield idx, len)) (h : gp_step l G d M K (gp_Go l G d M K) (.getfield idx) len pc ls st V cs ss) : gp_T l G d M K pc st cs ss p e s m args below meth c H locs la := by
  obtain ⟨hx, hb, hml, hr, hlk, hown, hnm, hts, hK, hN, hbs⟩ := id F
  obtain ⟨hcs, hsz, hP, hS, hl, hc1, hs1⟩ := id D
  have hon := hok.2.2.2.2.2.1
  obtain ⟨e0, h2⟩ := gp_ln_e h
  clear h
  subst e0
  obtain ⟨v, r, rfl, hv, h⟩ := gp_pA_e h2
  rcases hv with ⟨a, rfl⟩ | ⟨i, rfl⟩
  · obtain ⟨q, h0, h⟩ := gp_row_e h
    obtain ⟨fs, h1, h⟩ := gp_ob_e h
    obtain ⟨w, h2, h⟩ := gp_row_e h
    obtain ⟨C, T, N, ty, f1, f2, f3, f4, f5, f6⟩ := gp_fA _ _ hon _ (gp_lk_mem h0)
    obtain ⟨ty', c0, c1, c2, c3, c4, c5, c6, c7, c8, c9⟩ := gp_cA _ _ f1
    rw [gp_nth_e] at h2
    exact va_get (D := G.2.1) (C := C) (T := T) (N := N) hx hb hts c1 hown hK hP a (gp_cc_at h1) f1 q.2.1 f3 (hts _ f4) (fun _ h9 => h9) (v := gp_mv G w) (by rw [List.getElem?_map, h2]; rfl) hdg (h p e s m args below meth c H locs la F D)
  · obtain ⟨h1, h⟩ := gp_bt_e h
    obtain ⟨q, h0, h⟩ := gp_row_e h
    have hi : i < 25 := Nat.blt_eq.mp h1
    rcases gp_vA _ _ hon _ (gp_lk_mem h0) with ⟨e1, f⟩ | ⟨e1, f⟩
    · have e1 : q = 0 := e1
      subst e1
      exact vk_getf hx hb ((hN.2.2.2.2.1.1 i hi).2.2.1) hS hown (hts _ f) (fun _ h9 => h9) hdg (h p e s m args below meth c H locs la F D)
    · have e1 : q = 1 := e1
      subst e1
      exact vk_getf hx hb ((hN.2.2.2.2.1.1 i hi).2.1) hS hown (hts _ f) (fun _ h9 => h9) hdg (h p e s m args below meth c H locs la F D)
theorem gs_putfield {idx : Nat} (hok : gp_okd M) (F : gp_F G M p s m args meth c) (D : gp_D G M s V H locs la ls cs ss) {len : Nat} (hdg : decode M.2.1 pc = .ok (.putfield idx, len)) (h : gp_step l G d M K (gp_Go l G d M K) (.putfield idx) len pc ls st V cs ss) : gp_T l G d M K pc st cs ss p e s m args below meth c H locs la := by
  obtain ⟨hx, hb, hml, hr, hlk, hown, hnm, hts, hK, hN, hbs⟩ := id F
  obtain ⟨hcs, hsz, hP, hS, hl, hc1, hs1⟩ := id D
  have hon := hok.2.2.2.2.2.1
  obtain ⟨e0, h2⟩ := gp_ln_e h
  clear h
  subst e0
  have h := h2
  clear h2
  split at h
  · rename_i w a r
    obtain ⟨q, h0, h⟩ := gp_row_e h
    obtain ⟨fs, h1, h⟩ := gp_ob_e h
    obtain ⟨h2, h⟩ := gp_bt_e h
    have h2 : q.2.1 < fs.length := Nat.blt_eq.mp h2
    obtain ⟨C, T, N, ty, f1, f2, f3, f4, f5, f6⟩ := gp_fA _ _ hon _ (gp_lk_mem h0)
    obtain ⟨ty', c0, c1, c2, c3, c4, c5, c6, c7, c8, c9⟩ := gp_cA _ _ f1
    have e0 : ty = ty' := Option.some.inj (f2.symm.trans c0)
    subst e0
    obtain ⟨g1, g2, h⟩ := gp_pv_e (G := G) h f5
    have hset : (gp_cc G V).set a (G.1 + a, .inr (q.1, (fs.map (gp_mv G)).set q.2.1 (gp_mv G w))) = gp_cc G (V.set a (.inr (q.1, fs.set q.2.1 w))) := by
      rw [← gp_cc_set]
      show _ = (gp_cc G V).set a (G.1 + a, .inr (q.1, (fs.set q.2.1 w).map (gp_mv G)))
      rw [List.map_set]
    have fin : ∀ (H1 : Heap) (locs1 : List Loc), va_P G.2.1 gp_cl ((gp_cc G V).set a (G.1 + a, .inr (q.1, (fs.map (gp_mv G)).set q.2.1 (gp_mv G w)))) H1 → va_S (gp_A G) s.heap H1 locs1 → gp_Go l G d M K (pc + 3) ls r (V.set a (.inr (q.1, fs.set q.2.1 w))) cs ss → gp_T l G d M K (pc + 3) r cs ss p e s m args below meth c H1 locs1 la := by
      intro H1 locs1 p1 p2 h
      rw [hset] at p1
      exact gp_szW hbs (by rw [List.length_set]; exact hcs) p1 p2 (fun z => h p e s m args below meth c H1 locs1 la F (D.hp z (by simp) p1 p2))
    cases hq : q.2.2.2 with
    | false =>
      rw [hq] at h f6
      exact va_put (D := G.2.1) (A := gp_A G) (H0 := s.heap) (C := C) (T := T) (N := N) hx hb hts c1 ty c2 c3 hown hK hP (gp_cc_D G V) hS a (gp_cc_at h1) f1 q.2.1 f3 (hts _ f4) (fun _ h9 => h9) f6 (c2 _ f3) g1 g2 (by rw [List.length_map]; exact h2) hdg (fun H1 locs1 p1 _ p2 => fin H1 locs1 p1 p2 h)
    | true =>
      rw [hq] at h f6
      obtain ⟨h3, h⟩ := h
      obtain ⟨h4, h⟩ := gp_ln_e h
      have hdecl : (T q.2.1).1 = M.1.cls := by
        rw [c5 _ f3]
        rw [h4] at c9
        exact Option.some.inj (c9.symm.trans hon)
      exact va_putF (D := G.2.1) (A := gp_A G) (H0 := s.heap) (C := C) (T := T) (N := N) hx hb hts c1 ty c2 c3 hown hK hP (gp_cc_D G V) hS a (gp_cc_at h1) f1 q.2.1 f3 (hts _ f4) (fun _ h9 => h9) f6 (hnm.trans h3) hdecl (c2 _ f3) g1 g2 (by rw [List.length_map]; exact h2) hdg (fun H1 locs1 p1 _ p2 => fin H1 locs1 p1 p2 h)
  · exact h.elim
/-- behind a store into an array -/
theorem gs_fin {a : Nat} {x : gp_E} {r : List Value} {pc' : Nat} (F : gp_F G M p s m args meth c) (D : gp_D G M s V H locs la ls cs ss) {H1 : Heap} {locs1 : List Loc} {y : va_E} (hy : y = gp_ce G x) (p1 : va_P G.2.1 gp_cl ((gp_cc G V).set a (G.1 + a, y)) H1) (p2 : va_S (gp_A G) s.heap H1 locs1) (h : gp_Go l G d M K pc' ls r (V.set a x) cs ss) : gp_T l G d M K pc' r cs ss p e s m args below meth c H1 locs1 la := by
  rw [hy, gp_cc_set] at p1
  exact gp_szW F.2.2.2.2.2.2.2.2.2.2 (by rw [List.length_set]; exact D.1) p1 p2 (fun z => h p e s m args below meth c H1 locs1 la F (D.hp z (by simp) p1 p2))
theorem gs_iaload (hok : gp_okd M) (F : gp_F G M p s m args meth c) (D : gp_D G M s V H locs la ls cs ss) {len : Nat} (hdg : decode M.2.1 pc = .ok (.iaload, len)) (h : gp_step l G d M K (gp_Go l G d M K) .iaload len pc ls st V cs ss) : gp_T l G d M K pc st cs ss p e s m args below meth c H locs la := by
  obtain ⟨hx, hb, hml, hr, hlk, hown, hnm, hts, hK, hN, hbs⟩ := id F
  obtain ⟨hcs, hsz, hP, hS, hl, hc1, hs1⟩ := id D
  obtain ⟨e0, h2⟩ := gp_ln_e h
  clear h
  subst e0
  have h := h2
  clear h2
  split at h
  · rename_i j a r
    obtain ⟨n, f, h1, h2, h⟩ := gp_ai_e h
    exact va_iald hx hb hK hP a 0 (gp_cc_at h1) rfl h2 hdg (h p e s m args below meth c H locs la F D)
  · exact h.elim
theorem gs_iastore (hok : gp_okd M) (F : gp_F G M p s m args meth c) (D : gp_D G M s V H locs la ls cs ss) {len : Nat} (hdg : decode M.2.1 pc = .ok (.iastore, len)) (h : gp_step l G d M K (gp_Go l G d M K) .iastore len pc ls st V cs ss) : gp_T l G d M K pc st cs ss p e s m args below meth c H locs la := by
  obtain ⟨hx, hb, hml, hr, hlk, hown, hnm, hts, hK, hN, hbs⟩ := id F
  obtain ⟨hcs, hsz, hP, hS, hl, hc1, hs1⟩ := id D
  obtain ⟨e0, h2⟩ := gp_ln_e h
  clear h
  subst e0
  have h := h2
  clear h2
  split at h
  · rename_i x j a r
    obtain ⟨n, f, h1, h2, h⟩ := gp_ai_e h
    exact va_iast (A := gp_A G) (H0 := s.heap) hx hb hK hP (gp_cc_D G V) hS a 0 (gp_cc_at h1) rfl h2 hdg (fun H1 locs1 p1 _ p2 => gs_fin F D rfl p1 p2 h)
  · exact h.elim
set_option maxRecDepth 20000 in
theorem gs_baload (hok : gp_okd M) (F : gp_F G M p s m args meth c) (D : gp_D G M s V H locs la ls cs ss) {len : Nat} (hdg : decode M.2.1 pc = .ok (.baload, len)) (h : gp_step l G d M K (gp_Go l G d M K) .baload len pc ls st V cs ss) : gp_T l G d M K pc st cs ss p e s m args below meth c H locs la := by
  obtain ⟨hx, hb, hml, hr, hlk, hown, hnm, hts, hK, hN, hbs⟩ := id F
  obtain ⟨hcs, hsz, hP, hS, hl, hc1, hs1⟩ := id D
  obtain ⟨e0, h2⟩ := gp_ln_e h
  clear h
  subst e0
  have h := h2
  clear h2
  split at h
  · rename_i j a r
    obtain ⟨t, n, f, ht, h1, h2, h⟩ := gp_ab_e h
    rcases ht with rfl | rfl
    · exact va_bald hx hb hK hP a 1 (gp_cc_at h1) rfl h2 hdg (h p e s m args below meth c H locs la F D)
    · exact va_zald hx hb hK hP a 2 (gp_cc_at h1) rfl h2 hdg (h p e s m args below meth c H locs la F D)
  · rename_i j i r
    obtain ⟨h1, h2, h⟩ := gp_bt_e h
    obtain ⟨h1, e1⟩ := gp_sx_e h1
    have hT := (hN.2.2.2.2.1.1 (i - 1000) h1).2.2.2
    have hT : va_T .byte (G.2.2.2 (1000 + (i - 1000))) (gp_sn.getD (i - 1000) 0) (fun j => .int ((gp_sb.getD (i - 1000) []).getD j 0)) (gp_A G) s s.heap := hT
    rw [e1] at hT
    exact va_tb hx hb hT hS h2 rfl hdg (h p e s m args below meth c H locs la F D)
  · exact h.elim
theorem gs_bastore (hok : gp_okd M) (F : gp_F G M p s m args meth c) (D : gp_D G M s V H locs la ls cs ss) {len : Nat} (hdg : decode M.2.1 pc = .ok (.bastore, len)) (h : gp_step l G d M K (gp_Go l G d M K) .bastore len pc ls st V cs ss) : gp_T l G d M K pc st cs ss p e s m args below meth c H locs la := by
  obtain ⟨hx, hb, hml, hr, hlk, hown, hnm, hts, hK, hN, hbs⟩ := id F
  obtain ⟨hcs, hsz, hP, hS, hl, hc1, hs1⟩ := id D
  obtain ⟨e0, h2⟩ := gp_ln_e h
  clear h
  subst e0
  have h := h2
  clear h2
  split at h
  · rename_i x j a r
    obtain ⟨t, n, f, ht, h1, h2, h⟩ := gp_ab_e h
    rcases ht with rfl | rfl
    · exact va_bast (A := gp_A G) (H0 := s.heap) hx hb hK hP (gp_cc_D G V) hS a 1 (gp_cc_at h1) rfl h2 hdg (fun H1 locs1 p1 _ p2 => gs_fin F D rfl p1 p2 h)
    · exact va_zast (A := gp_A G) (H0 := s.heap) hx hb hK hP (gp_cc_D G V) hS a 2 (gp_cc_at h1) rfl h2 hdg (fun H1 locs1 p1 _ p2 => gs_fin F D rfl p1 p2 h)
  · exact h.elim
theorem gs_laload (hok : gp_okd M) (F : gp_F G M p s m args meth c) (D : gp_D G M s V H locs la ls cs ss) {len : Nat} (hdg : decode M.2.1 pc = .ok (.laload, len)) (h : gp_step l G d M K (gp_Go l G d M K) .laload len pc ls st V cs ss) : gp_T l G d M K pc st cs ss p e s m args below meth c H locs la := by
  obtain ⟨hx, hb, hml, hr, hlk, hown, hnm, hts, hK, hN, hbs⟩ := id F
  obtain ⟨hcs, hsz, hP, hS, hl, hc1, hs1⟩ := id D
  obtain ⟨e0, h2⟩ := gp_ln_e h
  clear h
  subst e0
  have h := h2
  clear h2
  split at h
  · rename_i j a r
    obtain ⟨n, f, h1, h2, h⟩ := gp_al3_e h
    exact va_lald hx hb hK hP a 3 (gp_cc_at h1) rfl h2 hdg (h p e s m args below meth c H locs la F D)
  · exact h.elim
theorem gs_lastore (hok : gp_okd M) (F : gp_F G M p s m args meth c) (D : gp_D G M s V H locs la ls cs ss) {len : Nat} (hdg : decode M.2.1 pc = .ok (.lastore, len)) (h : gp_step l G d M K (gp_Go l G d M K) .lastore len pc ls st V cs ss) : gp_T l G d M K pc st cs ss p e s m args below meth c H locs la := by
  obtain ⟨hx, hb, hml, hr, hlk, hown, hnm, hts, hK, hN, hbs⟩ := id F
  obtain ⟨hcs, hsz, hP, hS, hl, hc1, hs1⟩ := id D
  obtain ⟨e0, h2⟩ := gp_ln_e h
  clear h
  subst e0
  have h := h2
  clear h2
  split at h
  · rename_i x j a r
    obtain ⟨n, f, h1, h2, h⟩ := gp_al3_e h
    exact va_last (A := gp_A G) (H0 := s.heap) hx hb hK hP (gp_cc_D G V) hS a 3 (gp_cc_at h1) rfl h2 hdg (fun H1 locs1 p1 _ p2 => gs_fin F D rfl p1 p2 h)
  · exact h.elim
theorem gs_aaload (hok : gp_okd M) (F : gp_F G M p s m args meth c) (D : gp_D G M s V H locs la ls cs ss) {len : Nat} (hdg : decode M.2.1 pc = .ok (.aaload, len)) (h : gp_step l G d M K (gp_Go l G d M K) .aaload len pc ls st V cs ss) : gp_T l G d M K pc st cs ss p e s m args below meth c H locs la := by
  obtain ⟨hx, hb, hml, hr, hlk, hown, hnm, hts, hK, hN, hbs⟩ := id F
  obtain ⟨hcs, hsz, hP, hS, hl, hc1, hs1⟩ := id D
  obtain ⟨e0, h2⟩ := gp_ln_e h
  clear h
  subst e0
  have h := h2
  clear h2
  split at h
  · rename_i j a r
    obtain ⟨t, n, f, ht, h1, h2, b, h3, h⟩ := gp_aq_e h
    have e1 : va_rf ((f j.toNatClampNeg).map (fun a => G.1 + a)) = gp_mv G (.ref b) := by rw [h3]; rfl
    have hh := h p e s m args below meth c H locs la F D
    rcases ht with rfl | rfl
    · exact va_aldq hx hb hK hP a 4 (gp_cc_at h1) rfl h2 hdg (by rw [e1]; exact hh)
    · exact va_aldq hx hb hK hP a 5 (gp_cc_at h1) rfl h2 hdg (by rw [e1]; exact hh)
  · exact h.elim
theorem gs_aastore (hok : gp_okd M) (F : gp_F G M p s m args meth c) (D : gp_D G M s V H locs la ls cs ss) {len : Nat} (hdg : decode M.2.1 pc = .ok (.aastore, len)) (h : gp_step l G d M K (gp_Go l G d M K) .aastore len pc ls st V cs ss) : gp_T l G d M K pc st cs ss p e s m args below meth c H locs la := by
  obtain ⟨hx, hb, hml, hr, hlk, hown, hnm, hts, hK, hN, hbs⟩ := id F
  obtain ⟨hcs, hsz, hP, hS, hl, hc1, hs1⟩ := id D
  obtain ⟨e0, h2⟩ := gp_ln_e h
  clear h
  subst e0
  have h := h2
  clear h2
  split at h
  · rename_i b j a r
    obtain ⟨t, n, f, ht, h1, h⟩ := gp_aq_e h
    obtain ⟨fs, h3, h2, h⟩ := gp_ob_e h
    have key : ∀ t' : Nat, (.inl (G.2.2.1 t', n, .inr (.inr (.inr (.inr (va_up (fun j => (f j).map (fun a => G.1 + a)) j.toNatClampNeg (some (G.1 + b))))))) : va_E) = gp_ce G (.inl (t', n, .inr (.inr (.inr (.inr (va_up f j.toNatClampNeg (some b))))))) := by
      intro t'
      show _ = (.inl (G.2.2.1 t', n, .inr (.inr (.inr (.inr (fun i => (va_up f j.toNatClampNeg (some b) i).map (fun a => G.1 + a)))))) : va_E)
      have e2 : va_up (fun j => (f j).map (fun a => G.1 + a)) j.toNatClampNeg (some (G.1 + b)) = fun i => (va_up f j.toNatClampNeg (some b) i).map (fun a => G.1 + a) := by
        funext i
        simp only [va_up]
        split <;> simp
      rw [e2]
    rcases ht with rfl | rfl
    · exact va_astq (A := gp_A G) (H0 := s.heap) hx hb hK hP (gp_cc_D G V) hS a 4 b 2 (r := ("GoldPlate$Mark", gp_T2, 9)) (gp_cc_at h1) rfl (gp_cc_at h3) rfl h2 hdg (fun H1 locs1 p1 _ p2 => gs_fin F D (key 4) p1 p2 h)
    · exact va_astq (A := gp_A G) (H0 := s.heap) hx hb hK hP (gp_cc_D G V) hS a 5 b 3 (r := ("GoldPlate$Mind", gp_T3, 14)) (gp_cc_at h1) rfl (gp_cc_at h3) rfl h2 hdg (fun H1 locs1 p1 _ p2 => gs_fin F D (key 5) p1 p2 h)
  · exact h.elim
set_option maxRecDepth 20000 in
theorem gs_arraylength (hok : gp_okd M) (F : gp_F G M p s m args meth c) (D : gp_D G M s V H locs la ls cs ss) {len : Nat} (hdg : decode M.2.1 pc = .ok (.arraylength, len)) (h : gp_step l G d M K (gp_Go l G d M K) .arraylength len pc ls st V cs ss) : gp_T l G d M K pc st cs ss p e s m args below meth c H locs la := by
  obtain ⟨hx, hb, hml, hr, hlk, hown, hnm, hts, hK, hN, hbs⟩ := id F
  obtain ⟨hcs, hsz, hP, hS, hl, hc1, hs1⟩ := id D
  obtain ⟨e0, h2⟩ := gp_ln_e h
  clear h
  subst e0
  have h := h2
  clear h2
  split at h
  · rename_i a r
    obtain ⟨t, n, x, ht, h1, h⟩ := gp_an_e h
    have hc : ∃ y : vp_A, y.1 = n ∧ gp_ce G (.inl (t, n, x)) = .inl (G.2.2.1 t, y) := by
      rcases x with f | f | f | f | f
      · exact ⟨_, rfl, rfl⟩
      · exact ⟨_, rfl, rfl⟩
      · exact ⟨_, rfl, rfl⟩
      · exact ⟨_, rfl, rfl⟩
      · exact ⟨(n, .inr (.inr (.inr (.inr (fun j => (f j).map (fun a => G.1 + a)))))), rfl, rfl⟩
    obtain ⟨y, hy1, hy2⟩ := hc
    have h1' := gp_cc_at (G := G) h1
    rw [hy2] at h1'
    obtain ⟨ty, hty⟩ : ∃ ty, (gp_tl G)[t]? = some (G.2.2.1 t, ty) := by
      rcases (show t = 0 ∨ t = 1 ∨ t = 2 ∨ t = 3 ∨ t = 4 ∨ t = 5 by omega) with rfl | rfl | rfl | rfl | rfl | rfl <;> exact ⟨_, rfl⟩
    exact va_alen hx hb hK hP a t h1' hty (by rw [hy1]) hdg (h p e s m args below meth c H locs la F D)
  · rename_i i r
    obtain ⟨h1, h⟩ := gp_bt_e h
    obtain ⟨h1, e1⟩ := gp_sx_e h1
    have hT := (hN.2.2.2.2.1.1 (i - 1000) h1).2.2.2
    have hT : va_T .byte (G.2.2.2 (1000 + (i - 1000))) (gp_sn.getD (i - 1000) 0) (fun j => .int ((gp_sb.getD (i - 1000) []).getD j 0)) (gp_A G) s s.heap := hT
    rw [e1] at hT
    exact va_tlen hx hb hT hS rfl hdg (h p e s m args below meth c H locs la F D)
  · exact h.elim
end GO
end
section
/-! ===== new cells, calls, returns ===== -/
section GO2
variable {l : Launch} {G : gp_G} {d : Nat} {M : gp_M} {K : Option Value → gp_H → Prop} {pc : Nat} {ls : List (Option Value)} {st : List Value} {V : gp_H} {cs ss : Nat}
variable {p : Program} {e : Env} {s : State} {m : MethodId} {args : Array Value} {below : List Frame} {meth : Method} {c : Code} {H : Heap} {locs : List Loc} {la : Array Slot}
/-- behind the making of a cell -/
theorem gs_made {x : gp_E} {r : List Value} {pc' n : Nat} (F : gp_F G M p s m args meth c) (D : gp_D G M s V H locs la ls cs ss) (hc : cs + 1 ≤ gp_mc M) (hs : ss + n ≤ gp_ms M) {q : Nat} {H1 : Heap} {y : va_E} (hy : y = gp_ce G x) (p1 : va_P G.2.1 gp_cl (gp_cc G V ++ [(q, y)]) H1) (p3 : va_D (gp_A G) (gp_cc G V ++ [(q, y)])) (p2 : va_S (gp_A G) s.heap H1 locs) (h : gp_Go l G d M K pc' ls (.ref V.length :: r) (V ++ [x]) (cs + 1) (ss + n)) : W p l e (gp_rm d M) s m args below meth c H1 locs (cs + 1) (ss + n) (MQ below (gp_Post G (gp_mc M) K) args s (gp_mc M) (gp_ms M) (gp_A G)) (F0 m pc' la (.ref q :: r.map (gp_mv G))) := by
  refine gp_newW D.1 p1 p3 (fun e1 z => ?_)
  subst e1
  rw [hy, gp_cc_push] at p1
  exact h p e s m args below meth c H1 locs la F ⟨by rw [List.length_append]; have := D.1; simp; omega, by rw [z, List.length_append]; simp; omega, p1, p2, D.2.2.2.2.1, hc, hs⟩
theorem gs_new {idx : Nat} (hok : gp_okd M) (F : gp_F G M p s m args meth c) (D : gp_D G M s V H locs la ls cs ss) {len : Nat} (hdg : decode M.2.1 pc = .ok (.new idx, len)) (h : gp_step l G d M K (gp_Go l G d M K) (.new idx) len pc ls st V cs ss) : gp_T l G d M K pc st cs ss p e s m args below meth c H locs la := by
  obtain ⟨hx, hb, hml, hr, hlk, hown, hnm, hts, hK, hN, hbs⟩ := id F
  obtain ⟨hcs, hsz, hP, hS, hl, hc1, hs1⟩ := id D
  have hon := hok.2.2.2.2.2.1
  obtain ⟨e0, h2⟩ := gp_ln_e h
  clear h
  subst e0
  obtain ⟨ci, h0, h1, h3, h⟩ := gp_row_e h2
  obtain ⟨⟨C, T, N⟩, f1, f2⟩ := gp_nA _ _ hon _ (gp_lk_mem h0)
  obtain ⟨ty, c0, c1, c2, c3, c4, c5, c6, c7, c8, c9⟩ := gp_cA _ _ f1
  dsimp only at f1 f2 c1 c2 c3 c4 c5 c6 c7 c8 c9
  have hfs : ∀ j, j < N → defaultValue (ty j) = vp_V ((gp_df ci).map (gp_mv G)) j := by
    intro j hj
    have e1 := c4 j hj
    show _ = ((gp_df ci).map (gp_mv G)).getD j .null
    rw [List.getD_eq_getElem?_getD, List.getElem?_map]
    rw [List.getD_eq_getElem?_getD] at e1
    have hj2 : j < (gp_df ci).length := by rw [c8]; exact hj
    rw [List.getElem?_eq_getElem hj2] at e1 ⊢
    simp only [Option.map_some, Option.getD_some] at e1 ⊢
    rw [← e1]
    cases ty j <;> rfl
  rw [c8] at h3 h
  exact va_new (D := G.2.1) (A := gp_A G) (H0 := s.heap) (C := C) (T := T) (N := N) (ci := ci) (fs := (gp_df ci).map (gp_mv G)) hx hb hts c1 ty c2 hown (hts _ f2) (hts _ c6) (hts _ c7) hK hP (gp_cc_D G V) hS (fun q hq => Nat.le_trans hbs hq) f1 hfs h1 h3 hdg (fun q H1 p1 p3 p2 => gs_made (x := .inr (ci, gp_df ci)) F D h1 h3 rfl p1 p3 p2 h)
theorem gs_newarray {at' : ArrayType} (hok : gp_okd M) (F : gp_F G M p s m args meth c) (D : gp_D G M s V H locs la ls cs ss) {len : Nat} (hdg : decode M.2.1 pc = .ok (.newarray at', len)) (h : gp_step l G d M K (gp_Go l G d M K) (.newarray at') len pc ls st V cs ss) : gp_T l G d M K pc st cs ss p e s m args below meth c H locs la := by
  obtain ⟨hx, hb, hml, hr, hlk, hown, hnm, hts, hK, hN, hbs⟩ := id F
  obtain ⟨hcs, hsz, hP, hS, hl, hc1, hs1⟩ := id D
  have hA : ∀ q, s.heap.size ≤ q → gp_A G q := fun q hq => Nat.le_trans hbs hq
  obtain ⟨e0, h2⟩ := gp_ln_e h
  clear h
  subst e0
  obtain ⟨n, r, rfl, h3, h4, h5, h6, h⟩ := gp_p1_e h2
  cases at' with
  | int =>
    refine va_newa (atype := .int) (A := gp_A G) (H0 := s.heap) (ty := .int) hx hb (hts _ gp_arr_int) rfl hK hP (gp_cc_D G V) hS hA (a0 := (n.toNatClampNeg, .inl (fun _ => 0))) (fun _ => rfl) h3 rfl (by simp only [componentBytes]; omega) h5 h6 hdg (fun q cA H1 k1 p1 p3 p2 => ?_)
    have e1 : cA = G.2.2.1 0 := Option.some.inj ((va_nm_int (k1.2 6 _ rfl).2).symm.trans (va_nm_int (k1.2 0 _ rfl).2))
    subst e1
    exact gs_made (x := .inl (0, n.toNatClampNeg, .inl (fun _ => 0))) F D h5 h6 rfl p1 p3 p2 h
  | byte =>
    refine va_newa (atype := .byte) (A := gp_A G) (H0 := s.heap) (ty := .byte) hx hb (hts _ gp_arr_byte) rfl hK hP (gp_cc_D G V) hS hA (a0 := (n.toNatClampNeg, .inl (fun _ => 0))) (fun _ => rfl) h3 rfl (by simp only [componentBytes]; omega) h5 h6 hdg (fun q cA H1 k1 p1 p3 p2 => ?_)
    have e1 : cA = G.2.2.1 1 := Option.some.inj ((va_nm_byte (k1.2 6 _ rfl).2).symm.trans (va_nm_byte (k1.2 1 _ rfl).2))
    subst e1
    exact gs_made (x := .inl (1, n.toNatClampNeg, .inl (fun _ => 0))) F D h5 h6 rfl p1 p3 p2 h
  | boolean =>
    refine va_newa (atype := .boolean) (A := gp_A G) (H0 := s.heap) (ty := .boolean) hx hb (hts _ gp_arr_boolean) rfl hK hP (gp_cc_D G V) hS hA (a0 := (n.toNatClampNeg, .inl (fun _ => 0))) (fun _ => rfl) h3 rfl (by simp only [componentBytes]; omega) h5 h6 hdg (fun q cA H1 k1 p1 p3 p2 => ?_)
    have e1 : cA = G.2.2.1 2 := Option.some.inj ((va_nm_boolean (k1.2 6 _ rfl).2).symm.trans (va_nm_boolean (k1.2 2 _ rfl).2))
    subst e1
    exact gs_made (x := .inl (2, n.toNatClampNeg, .inl (fun _ => 0))) F D h5 h6 rfl p1 p3 p2 h
  | long =>
    refine va_newa (atype := .long) (A := gp_A G) (H0 := s.heap) (ty := .long) hx hb (hts _ gp_arr_long) rfl hK hP (gp_cc_D G V) hS hA (a0 := (n.toNatClampNeg, .inr (.inl (fun _ => 0)))) (fun _ => rfl) h3 rfl (by simp only [componentBytes]; omega) h5 h6 hdg (fun q cA H1 k1 p1 p3 p2 => ?_)
    have e1 : cA = G.2.2.1 3 := Option.some.inj ((va_nm_long (k1.2 6 _ rfl).2).symm.trans (va_nm_long (k1.2 3 _ rfl).2))
    subst e1
    exact gs_made (x := .inl (3, n.toNatClampNeg, .inr (.inl (fun _ => 0)))) F D h5 h6 rfl p1 p3 p2 h
  | _ => exact h.elim
theorem gs_anewarray {idx : Nat} (hok : gp_okd M) (F : gp_F G M p s m args meth c) (D : gp_D G M s V H locs la ls cs ss) {len : Nat} (hdg : decode M.2.1 pc = .ok (.anewarray idx, len)) (h : gp_step l G d M K (gp_Go l G d M K) (.anewarray idx) len pc ls st V cs ss) : gp_T l G d M K pc st cs ss p e s m args below meth c H locs la := by
  obtain ⟨hx, hb, hml, hr, hlk, hown, hnm, hts, hK, hN, hbs⟩ := id F
  obtain ⟨hcs, hsz, hP, hS, hl, hc1, hs1⟩ := id D
  have hon := hok.2.2.2.2.2.1
  have hA : ∀ q, s.heap.size ≤ q → gp_A G q := fun q hq => Nat.le_trans hbs hq
  obtain ⟨e0, h2⟩ := gp_ln_e h
  clear h
  subst e0
  obtain ⟨n, r, rfl, h⟩ := gp_p1_e h2
  obtain ⟨t, h0, h3, h4, h5, h6, h⟩ := gp_row_e h
  obtain ⟨q, f1, f3, f2⟩ := gp_aA _ _ hon _ (gp_lk_mem h0)
  have f3 : t = 4 ∨ t = 5 := f3
  rcases f3 with rfl | rfl
  · have e2 : q = ("GoldPlate$Mark", gp_T2, 9) := (Option.some.inj f1).symm
    subst e2
    refine va_newq (A := gp_A G) (H0 := s.heap) hx hb hown (hts _ f2) hN.2.1 hK hP (gp_cc_D G V) hS hA h3 rfl (by omega) h5 h6 hdg (fun q cA H1 k1 p1 p3 p2 => ?_)
    obtain ⟨_, _, _, _, _, a4⟩ := (k1.2 6 _ rfl).2
    obtain ⟨_, _, _, _, _, b4⟩ := (k1.2 4 _ rfl).2
    have e1 : cA = G.2.2.1 4 := Option.some.inj (a4.symm.trans b4)
    subst e1
    exact gs_made (x := .inl (4, n.toNatClampNeg, .inr (.inr (.inr (.inr (fun _ => none)))))) F D h5 h6 rfl p1 p3 p2 h
  · have e2 : q = ("GoldPlate$Mind", gp_T3, 14) := (Option.some.inj f1).symm
    subst e2
    refine va_newq (A := gp_A G) (H0 := s.heap) hx hb hown (hts _ f2) hN.2.2.1 hK hP (gp_cc_D G V) hS hA h3 rfl (by omega) h5 h6 hdg (fun q cA H1 k1 p1 p3 p2 => ?_)
    obtain ⟨_, _, _, _, _, a4⟩ := (k1.2 6 _ rfl).2
    obtain ⟨_, _, _, _, _, b4⟩ := (k1.2 5 _ rfl).2
    have e1 : cA = G.2.2.1 5 := Option.some.inj (a4.symm.trans b4)
    subst e1
    exact gs_made (x := .inl (5, n.toNatClampNeg, .inr (.inr (.inr (.inr (fun _ => none)))))) F D h5 h6 rfl p1 p3 p2 h
/-- behind a call of ours -/
theorem gs_back {M' : gp_M} {rest st0 : List Value} {a : Array Value} (F : gp_F G M p s m args meth c) (D : gp_D G M s V H locs la ls cs ss) (hc : cs + gp_mc M' ≤ gp_mc M) (hs : ss + gp_ms M' ≤ gp_ms M)
    (hr : va_Run p l e (gp_rm d M) s m args below meth c H locs cs ss (gp_mc M') (gp_ms M') (F0 m pc la st0) (rest.map (gp_mv G)) (gp_Post G (gp_mc M') (fun r V' => gp_Go l G d M K (pc + 3) ls (r.toList ++ rest) V' (cs + gp_mc M') (ss + gp_ms M')) a) (gp_A G)) : W p l e (gp_rm d M) s m args below meth c H locs cs ss (MQ below (gp_Post G (gp_mc M) K) args s (gp_mc M) (gp_ms M) (gp_A G)) (F0 m pc la st0) := by
  refine gp_callW hr D.2.2.2.1 D.2.1 (fun r V' H1 locs1 hk z1 z2 p1 p2 => ?_)
  exact hk p e s m args below meth c H1 locs1 la F ⟨by rw [z2]; have := D.1; omega, z1, p1, p2, D.2.2.2.2.1, hc, hs⟩
theorem gs_static {idx : Nat} (hok : gp_okd M) (F : gp_F G M p s m args meth c) (D : gp_D G M s V H locs la ls cs ss) {len : Nat} (hdg : decode M.2.1 pc = .ok (.invokestatic idx, len)) (h : gp_step l G d M K (gp_Go l G d M K) (.invokestatic idx) len pc ls st V cs ss) : gp_T l G d M K pc st cs ss p e s m args below meth c H locs la := by
  obtain ⟨hx, hb, hml, hr, hlk, hown, hnm, hts, hK, hN, hbs⟩ := id F
  obtain ⟨hcs, hsz, hP, hS, hl, hc1, hs1⟩ := id D
  have hon := hok.2.2.2.2.2.1
  obtain ⟨e0, h2⟩ := gp_ln_e h
  clear h
  subst e0
  split at h2
  · rename_i t h0
    obtain ⟨hd, h⟩ := gp_bt_e h2
    have hd : 1 ≤ d := Nat.le_of_ble_eq_true hd
    have hfr : 1 ≤ (gp_rm d M).frames := hd
    have hlo : ∀ r : List Value, gp_sz r ≤ 8 → ((r.map (gp_mv G)).map fun v => v.category).sum + 13 ≤ (gp_rm d M).locals := by
      intro r h8
      rw [gp_sz_e]
      show gp_sz r + 13 ≤ 64 * d
      omega
    have hml' : c.maxLocals = la.size := hml.trans hl.1.symm
    rcases gp_xA _ _ hon _ (gp_lk_mem h0) with ⟨e1, f⟩ | ⟨e1, f⟩ | ⟨e1, f⟩
    · have e1 : t = 0 := e1
      subst e1
      obtain ⟨x, y, r, rfl, h⟩ := gp_p2_e h
      obtain ⟨h8, h⟩ := gp_bt_e h
      exact va_mmax hx hb hml' hown (hts _ f) (hts _ gp_ms_max) (hts _ gp_mi_math) (hts _ gp_mk_max) hfr (hlo r (Nat.le_of_ble_eq_true h8)) hc1 hs1 hdg (h p e s m args below meth c H locs la F D)
    · have e1 : t = 1 := e1
      subst e1
      obtain ⟨x, y, r, rfl, h⟩ := gp_p2_e h
      obtain ⟨h8, h⟩ := gp_bt_e h
      exact va_mmin hx hb hml' hown (hts _ f) (hts _ gp_ms_min) (hts _ gp_mi_math) (hts _ gp_mk_min) hfr (hlo r (Nat.le_of_ble_eq_true h8)) hc1 hs1 hdg (h p e s m args below meth c H locs la F D)
    · have e1 : t = 2 := e1
      subst e1
      obtain ⟨x, r, rfl, h⟩ := gp_p1_e h
      obtain ⟨h8, h⟩ := gp_bt_e h
      exact va_mabs hx hb hml' hown (hts _ f) (hts _ gp_ms_abs) (hts _ gp_mi_math) (hts _ gp_mk_abs) hfr (hlo r (Nat.le_of_ble_eq_true h8)) hc1 hs1 hdg (h p e s m args below meth c H locs la F D)
  · obtain ⟨⟨kd, M'⟩, h0, h3⟩ := gp_row_e h2
    obtain ⟨⟨as, rest⟩, hpop, h4⟩ := gp_row_e h3
    obtain ⟨hkd, h5⟩ := gp_bt_e h4
    clear h2 h3 h4
    obtain ⟨d', rfl, h8, hcc, hss, h⟩ := gp_cl1_e hc1 hs1 h5
    clear h5
    obtain ⟨ok', hw⟩ := gp_mA _ _ hon _ (gp_lk_mem h0)
    obtain ⟨pl, pst⟩ := gp_pop_0 hpop
    subst pst
    dsimp only at hw hkd hcc hss ok' pl h8 h
    have hroom : (gp_rm d' M').frames + 1 ≤ (gp_rm (d' + 1) M).frames ∧ 8 + (M'.2.2.1 + 11) + (gp_rm d' M').locals ≤ (gp_rm (d' + 1) M).locals := ⟨Nat.le_refl _, by show 8 + (M'.2.2.1 + 11) + 64 * d' ≤ 64 * (d' + 1); have := ok'.2.2.1; omega⟩
    have hstk : (as.reverse ++ rest).map (gp_mv G) = (as.map (gp_mv G)).reverse ++ rest.map (gp_mv G) := by simp
    have hr8 : ((rest.map (gp_mv G)).map fun v => v.category).sum ≤ 8 := by rw [gp_sz_e]; exact h8
    have hfix : CallFix p m c M.2.1 M.2.2.1 s args gp_ws M.1.cls := ⟨hx, hb, hml, hown, hts⟩
    have hpre : PreS s H (gp_Pre G as V) (as.map (gp_mv G)) := ⟨gp_blind G as V, gp_pre hK hN hsz hP hS⟩
    show W p l e (gp_rm (d' + 1) M) s m args below meth c H locs cs ss _ (F0 m pc la ((as.reverse ++ rest).map (gp_mv G)))
    rw [hstk]
    rcases hw with ⟨e1, -⟩ | ⟨e1, f1, f2⟩ | ⟨e1, -⟩ | ⟨e1, -⟩ | ⟨e1, f1, f2⟩ | ⟨e1, -⟩
    · rw [e1] at hkd; exact absurd hkd (by decide)
    · exact gs_back (rest := rest) (M' := M') (a := (as.map (gp_mv G)).toArray) F D hcc hss (va_runS (n := gp_np M') hfix h ⟨callB_of (ws := gp_wM M') (ws' := gp_ws) (gp_np M') hts (gp_good M' ok') rfl rfl rfl (hts _ ok'.2.2.2.2) (hts _ f1) ok'.1 hroom, hts _ f2⟩ hpre rfl (by rw [List.length_map]; exact pl) hl.1 rfl (lv_room hr8) hdg ⟨hcc, hss⟩)
    · rw [e1] at hkd; exact absurd hkd (by decide)
    · rw [e1] at hkd; exact absurd hkd (by decide)
    · exact gs_back (rest := rest) (M' := M') (a := (as.map (gp_mv G)).toArray) F D hcc hss (va_runSN (n := gp_np M') (host := "GoldPlate") hfix h ⟨va_cnB (ws := gp_wM M') (ws' := gp_ws) (gp_np M') hts (gp_good M' ok') rfl rfl rfl (hN.1 _ f1) (hts _ ok'.2.2.2.2) ok'.1 hroom, hts _ f2, trivial⟩ hpre rfl (by rw [List.length_map]; exact pl) hl.1 rfl (lv_room hr8) hdg ⟨hcc, hss⟩)
    · rw [e1] at hkd; exact absurd hkd (by decide)
theorem gs_virtual {idx : Nat} (hok : gp_okd M) (F : gp_F G M p s m args meth c) (D : gp_D G M s V H locs la ls cs ss) {len : Nat} (hdg : decode M.2.1 pc = .ok (.invokevirtual idx, len)) (h : gp_step l G d M K (gp_Go l G d M K) (.invokevirtual idx) len pc ls st V cs ss) : gp_T l G d M K pc st cs ss p e s m args below meth c H locs la := by
  obtain ⟨hx, hb, hml, hr, hlk, hown, hnm, hts, hK, hN, hbs⟩ := id F
  obtain ⟨hcs, hsz, hP, hS, hl, hc1, hs1⟩ := id D
  have hon := hok.2.2.2.2.2.1
  obtain ⟨e0, h2⟩ := gp_ln_e h
  clear h
  subst e0
  obtain ⟨⟨kd, M'⟩, h0, h3⟩ := gp_row_e h2
  obtain ⟨⟨as, rest0⟩, hpop, h4⟩ := gp_row_e h3
  obtain ⟨hkd, h⟩ := gp_bt_e h4
  clear h2 h3 h4
  obtain ⟨ok', hw⟩ := gp_mA _ _ hon _ (gp_lk_mem h0)
  obtain ⟨pl, pst⟩ := gp_pop_0 hpop
  subst pst
  dsimp only at hw hkd h ok' pl
  split at h
  · rename_i v rest
    have hv : (∃ b, gp_mv G v = .ref b ∧ ∃ cell : Cell, H[b]? = some cell ∧ cell.vm.isStatics = false ∧ s.vm.findClass M'.1.cls = some cell.cls) ∧ gp_cl1 l G d M M' (v :: as) rest V cs ss (fun r V' cs' ss' => gp_Go l G d M K (pc + 3) ls (r.toList ++ rest) V' cs' ss') := by
      unfold gp_rc at h
      split at h
      · rename_i a
        obtain ⟨fs, g1, h⟩ := gp_ob_e h
        refine ⟨⟨G.1 + a, rfl, ?_⟩, h⟩
        obtain ⟨r, k1, k2⟩ := hP _ _ (gp_cc_at g1)
        have hcn : r.1 = M'.1.cls := by
          obtain ⟨ty, c0, c1, c2, c3, c4, c5, c6, c7, c8, c9⟩ := gp_cA _ _ k1
          exact Option.some.inj (c9.symm.trans ok'.2.2.2.1)
        rw [← hcn]
        exact va_recv hK hP k1 (gp_cc_at g1)
      · rename_i i
        obtain ⟨g1, h⟩ := gp_ln_e h
        obtain ⟨g2, h⟩ := gp_bt_e h
        refine ⟨⟨_, rfl, ?_⟩, h⟩
        have hcn : M'.1.cls = "java/lang/String" := by
          have q1 := ok'.2.2.2.1
          rw [g1] at q1
          exact (Option.some.inj q1).symm
        rw [hcn]
        exact vk_recv hN.2.2.2.2.1 (Nat.blt_eq.mp g2) hS
      · exact h.elim
    obtain ⟨⟨b, hvb, hcell⟩, h⟩ := hv
    obtain ⟨d', rfl, h8, hcc, hss, h⟩ := gp_cl1_e hc1 hs1 h
    have hroom : (gp_rm d' M').frames + 1 ≤ (gp_rm (d' + 1) M).frames ∧ 8 + (M'.2.2.1 + 11) + (gp_rm d' M').locals ≤ (gp_rm (d' + 1) M).locals := ⟨Nat.le_refl _, by show 8 + (M'.2.2.1 + 11) + 64 * d' ≤ 64 * (d' + 1); have := ok'.2.2.1; omega⟩
    have hstk : (as.reverse ++ v :: rest).map (gp_mv G) = (as.map (gp_mv G)).reverse ++ .ref b :: rest.map (gp_mv G) := by simp [hvb]
    have hr8 : ((rest.map (gp_mv G)).map fun v => v.category).sum ≤ 8 := by rw [gp_sz_e]; exact h8
    have hfix : CallFix p m c M.2.1 M.2.2.1 s args gp_ws M.1.cls := ⟨hx, hb, hml, hown, hts⟩
    have hpre : PreV s H M'.1.cls b (gp_Pre G (v :: as) V) (as.map (gp_mv G)) := ⟨gp_blind G _ V, hcell, fun U hU hW => by
      have := gp_pre (as := v :: as) hK hN hsz hP hS U hU hW
      rw [List.map_cons, hvb] at this
      exact this⟩
    show W p l e (gp_rm (d' + 1) M) s m args below meth c H locs cs ss _ (F0 m pc la ((as.reverse ++ v :: rest).map (gp_mv G)))
    rw [hstk]
    rcases hw with ⟨e1, f1, f2, f3⟩ | ⟨e1, -⟩ | ⟨e1, -⟩ | ⟨e1, f1, f2, f3⟩ | ⟨e1, -⟩ | ⟨e1, -⟩
    · exact gs_back (rest := rest) (M' := M') (a := (Value.ref b :: as.map (gp_mv G)).toArray) F D hcc hss (va_runV (n := gp_np M') hfix h ⟨callB_of (ws := gp_wM M') (ws' := gp_ws) (gp_np M') hts (gp_good M' ok') rfl rfl rfl (hts _ ok'.2.2.2.2) (hts _ f1) ok'.1 hroom, hts _ f2, hts _ f3⟩ hpre rfl (by rw [List.length_map]; exact pl) hl.1 rfl (lv_room hr8) hdg ⟨hcc, hss⟩)
    · rw [e1] at hkd; exact absurd hkd (by decide)
    · rw [e1] at hkd; exact absurd hkd (by decide)
    · exact gs_back (rest := rest) (M' := M') (a := (Value.ref b :: as.map (gp_mv G)).toArray) F D hcc hss (va_runVN (n := gp_np M') (host := "GoldPlate") hfix h ⟨va_cnB (ws := gp_wM M') (ws' := gp_ws) (gp_np M') hts (gp_good M' ok') rfl rfl rfl (hN.1 _ f1) (hts _ ok'.2.2.2.2) ok'.1 hroom, hts _ f2, hts _ f3⟩ hpre rfl (by rw [List.length_map]; exact pl) hl.1 rfl (lv_room hr8) hdg ⟨hcc, hss⟩)
    · rw [e1] at hkd; exact absurd hkd (by decide)
    · rw [e1] at hkd; exact absurd hkd (by decide)
  · exact h.elim
theorem gs_special {idx : Nat} (hok : gp_okd M) (F : gp_F G M p s m args meth c) (D : gp_D G M s V H locs la ls cs ss) {len : Nat} (hdg : decode M.2.1 pc = .ok (.invokespecial idx, len)) (h : gp_step l G d M K (gp_Go l G d M K) (.invokespecial idx) len pc ls st V cs ss) : gp_T l G d M K pc st cs ss p e s m args below meth c H locs la := by
  obtain ⟨hx, hb, hml, hr, hlk, hown, hnm, hts, hK, hN, hbs⟩ := id F
  obtain ⟨hcs, hsz, hP, hS, hl, hc1, hs1⟩ := id D
  have hon := hok.2.2.2.2.2.1
  obtain ⟨e0, h2⟩ := gp_ln_e h
  clear h
  subst e0
  split at h2
  · rename_i u h0
    split at h2
    · rename_i a r d'
      obtain ⟨h8, h⟩ := gp_bt_e h2
      have h8 : gp_sz r ≤ 8 := Nat.le_of_ble_eq_true h8
      refine W.objInit hx hb hown (hts _ (gp_oA _ _ hon _ (gp_lk_mem h0))) (hts _ gp_oi1) (hts _ gp_oi2) rfl (by rw [hml]; exact hl.1) rfl hdg (Nat.le_add_left 1 d') ?_ (h p e s m args below meth c H locs la F D)
      show 2 * 0 + ((r.map (gp_mv G)).map fun v => v.category).sum + 12 ≤ 64 * (d' + 1)
      rw [gp_sz_e]
      omega
    · exact h2.elim
  · obtain ⟨⟨kd, M'⟩, h0, h3⟩ := gp_row_e h2
    obtain ⟨⟨as, rest0⟩, hpop, h4⟩ := gp_row_e h3
    obtain ⟨hkd, h⟩ := gp_bt_e h4
    clear h2 h3 h4
    obtain ⟨ok', hw⟩ := gp_mA _ _ hon _ (gp_lk_mem h0)
    obtain ⟨pl, pst⟩ := gp_pop_0 hpop
    subst pst
    dsimp only at hw hkd h ok' pl
    split at h
    · rename_i b rest
      obtain ⟨d', rfl, h8, hcc, hss, h⟩ := gp_cl1_e hc1 hs1 h
      have hroom : (gp_rm d' M').frames + 1 ≤ (gp_rm (d' + 1) M).frames ∧ 8 + (M'.2.2.1 + 11) + (gp_rm d' M').locals ≤ (gp_rm (d' + 1) M).locals := ⟨Nat.le_refl _, by show 8 + (M'.2.2.1 + 11) + 64 * d' ≤ 64 * (d' + 1); have := ok'.2.2.1; omega⟩
      have hstk : (as.reverse ++ .ref b :: rest).map (gp_mv G) = (as.map (gp_mv G)).reverse ++ .ref (G.1 + b) :: rest.map (gp_mv G) := by simp [gp_mv]
      have hr8 : ((rest.map (gp_mv G)).map fun v => v.category).sum ≤ 8 := by rw [gp_sz_e]; exact h8
      have hfix : CallFix p m c M.2.1 M.2.2.1 s args gp_ws M.1.cls := ⟨hx, hb, hml, hown, hts⟩
      have hpre : PreS s H (gp_Pre G (.ref b :: as) V) (.ref (G.1 + b) :: as.map (gp_mv G)) := ⟨gp_blind G _ V, gp_pre (as := .ref b :: as) hK hN hsz hP hS⟩
      show W p l e (gp_rm (d' + 1) M) s m args below meth c H locs cs ss _ (F0 m pc la ((as.reverse ++ .ref b :: rest).map (gp_mv G)))
      rw [hstk]
      obtain ⟨y', b', ml', rt', M''⟩ := M'
      rcases hw with ⟨e1, -⟩ | ⟨e1, -⟩ | ⟨e1, f1, f2, f3, f4⟩ | ⟨e1, -⟩ | ⟨e1, -⟩ | ⟨e1, f1, f2, f3, f4⟩
      · rw [e1] at hkd; exact absurd hkd (by decide)
      · rw [e1] at hkd; exact absurd hkd (by decide)
      · dsimp only at f4
        subst f4
        exact gs_back (rest := rest) (M' := (y', b', ml', none, M'')) (a := (Value.ref (G.1 + b) :: as.map (gp_mv G)).toArray) F D hcc hss (va_runI (n := gp_np (y', b', ml', none, M'')) hfix h ⟨callB_of (ws := gp_wM (y', b', ml', none, M'')) (ws' := gp_ws) (gp_np (y', b', ml', none, M'')) hts (gp_good _ ok') rfl rfl rfl (hts _ ok'.2.2.2.2) (hts _ f1) ok'.1 hroom, f3, hts _ f2⟩ hpre rfl (by rw [List.length_map]; exact pl) hl.1 rfl (lv_room hr8) hdg ⟨hcc, hss⟩)
      · rw [e1] at hkd; exact absurd hkd (by decide)
      · rw [e1] at hkd; exact absurd hkd (by decide)
      · dsimp only at f4
        subst f4
        exact gs_back (rest := rest) (M' := (y', b', ml', none, M'')) (a := (Value.ref (G.1 + b) :: as.map (gp_mv G)).toArray) F D hcc hss (va_runIN (n := gp_np (y', b', ml', none, M'')) (host := "GoldPlate") hfix h ⟨va_cnB (ws := gp_wM (y', b', ml', none, M'')) (ws' := gp_ws) (gp_np (y', b', ml', none, M'')) hts (gp_good _ ok') rfl rfl rfl (hN.1 _ f1) (hts _ ok'.2.2.2.2) ok'.1 hroom, f3, hts _ f2⟩ hpre rfl (by rw [List.length_map]; exact pl) hl.1 rfl (lv_room hr8) hdg ⟨hcc, hss⟩)
    · exact h.elim
end GO2
end
section
/-! ===== every step, and a method's entry ===== -/
section GO3
variable {l : Launch} {G : gp_G} {d : Nat} {M : gp_M} {K : Option Value → gp_H → Prop} {pc : Nat} {ls : List (Option Value)} {st : List Value} {V : gp_H} {cs ss : Nat}
variable {p : Program} {e : Env} {s : State} {m : MethodId} {args : Array Value} {below : List Frame} {meth : Method} {c : Code} {H : Heap} {locs : List Loc} {la : Array Slot}

theorem gs_iload_n {n : Fin 4} (hok : gp_okd M) (F : gp_F G M p s m args meth c) (D : gp_D G M s V H locs la ls cs ss) {len : Nat} (hdg : decode M.2.1 pc = .ok (.iload_n n, len)) (h : gp_step l G d M K (gp_Go l G d M K) (.iload_n n) len pc ls st V cs ss) : gp_T l G d M K pc st cs ss p e s m args below meth c H locs la := by
  obtain ⟨hx, hb, hml, hr, hlk, hown, hnm, hts, hK, hN, hbs⟩ := id F
  obtain ⟨hcs, hsz, hP, hS, hl, hc1, hs1⟩ := id D
  have hon := hok.2.2.2.2.2.1
  obtain ⟨e0, h2⟩ := gp_ln_e h
  clear h
  subst e0
  obtain ⟨x, h1, h⟩ := gp_ldI_e h2
  exact lv_iload_n hx hb hdg rfl (hl.2.2.2 _ _ h1) (h p e s m args below meth c H locs la F D)

theorem gs_iload {n : Nat} (hok : gp_okd M) (F : gp_F G M p s m args meth c) (D : gp_D G M s V H locs la ls cs ss) {len : Nat} (hdg : decode M.2.1 pc = .ok (.iload n, len)) (h : gp_step l G d M K (gp_Go l G d M K) (.iload n) len pc ls st V cs ss) : gp_T l G d M K pc st cs ss p e s m args below meth c H locs la := by
  obtain ⟨hx, hb, hml, hr, hlk, hown, hnm, hts, hK, hN, hbs⟩ := id F
  obtain ⟨hcs, hsz, hP, hS, hl, hc1, hs1⟩ := id D
  have hon := hok.2.2.2.2.2.1
  obtain ⟨e0, h2⟩ := gp_ln_e h
  clear h
  subst e0
  obtain ⟨x, h1, h⟩ := gp_ldI_e h2
  exact lv_iload hx hb hdg (hl.2.2.2 _ _ h1) (h p e s m args below meth c H locs la F D)

theorem gs_lload_n {n : Fin 4} (hok : gp_okd M) (F : gp_F G M p s m args meth c) (D : gp_D G M s V H locs la ls cs ss) {len : Nat} (hdg : decode M.2.1 pc = .ok (.lload_n n, len)) (h : gp_step l G d M K (gp_Go l G d M K) (.lload_n n) len pc ls st V cs ss) : gp_T l G d M K pc st cs ss p e s m args below meth c H locs la := by
  obtain ⟨hx, hb, hml, hr, hlk, hown, hnm, hts, hK, hN, hbs⟩ := id F
  obtain ⟨hcs, hsz, hP, hS, hl, hc1, hs1⟩ := id D
  have hon := hok.2.2.2.2.2.1
  obtain ⟨e0, h2⟩ := gp_ln_e h
  clear h
  subst e0
  obtain ⟨x, h1, h⟩ := gp_ldL_e h2
  exact lv_lload_n hx hb hdg rfl (hl.2.2.2 _ _ h1) (h p e s m args below meth c H locs la F D)

theorem gs_lload {n : Nat} (hok : gp_okd M) (F : gp_F G M p s m args meth c) (D : gp_D G M s V H locs la ls cs ss) {len : Nat} (hdg : decode M.2.1 pc = .ok (.lload n, len)) (h : gp_step l G d M K (gp_Go l G d M K) (.lload n) len pc ls st V cs ss) : gp_T l G d M K pc st cs ss p e s m args below meth c H locs la := by
  obtain ⟨hx, hb, hml, hr, hlk, hown, hnm, hts, hK, hN, hbs⟩ := id F
  obtain ⟨hcs, hsz, hP, hS, hl, hc1, hs1⟩ := id D
  have hon := hok.2.2.2.2.2.1
  obtain ⟨e0, h2⟩ := gp_ln_e h
  clear h
  subst e0
  obtain ⟨x, h1, h⟩ := gp_ldL_e h2
  exact lv_lload hx hb hdg (hl.2.2.2 _ _ h1) (h p e s m args below meth c H locs la F D)

theorem gs_aload_n {n : Fin 4} (hok : gp_okd M) (F : gp_F G M p s m args meth c) (D : gp_D G M s V H locs la ls cs ss) {len : Nat} (hdg : decode M.2.1 pc = .ok (.aload_n n, len)) (h : gp_step l G d M K (gp_Go l G d M K) (.aload_n n) len pc ls st V cs ss) : gp_T l G d M K pc st cs ss p e s m args below meth c H locs la := by
  obtain ⟨hx, hb, hml, hr, hlk, hown, hnm, hts, hK, hN, hbs⟩ := id F
  obtain ⟨hcs, hsz, hP, hS, hl, hc1, hs1⟩ := id D
  have hon := hok.2.2.2.2.2.1
  obtain ⟨e0, h2⟩ := gp_ln_e h
  clear h
  subst e0
  obtain ⟨v, h1, hv, h⟩ := gp_ldA_e (G := G) h2
  have g1 := hl.2.2.2 _ _ h1
  have g2 := h p e s m args below meth c H locs la F D
  rw [List.map_cons] at g2
  rcases hv with hv | ⟨q, hv⟩
  · rw [hv] at g1 g2
    exact lv_aload_nN hx hb hdg rfl g1 g2
  · rw [hv] at g1 g2
    exact lv_aload_n hx hb hdg rfl g1 g2

theorem gs_aload {n : Nat} (hok : gp_okd M) (F : gp_F G M p s m args meth c) (D : gp_D G M s V H locs la ls cs ss) {len : Nat} (hdg : decode M.2.1 pc = .ok (.aload n, len)) (h : gp_step l G d M K (gp_Go l G d M K) (.aload n) len pc ls st V cs ss) : gp_T l G d M K pc st cs ss p e s m args below meth c H locs la := by
  obtain ⟨hx, hb, hml, hr, hlk, hown, hnm, hts, hK, hN, hbs⟩ := id F
  obtain ⟨hcs, hsz, hP, hS, hl, hc1, hs1⟩ := id D
  have hon := hok.2.2.2.2.2.1
  obtain ⟨e0, h2⟩ := gp_ln_e h
  clear h
  subst e0
  obtain ⟨v, h1, hv, h⟩ := gp_ldA_e (G := G) h2
  have g1 := hl.2.2.2 _ _ h1
  have g2 := h p e s m args below meth c H locs la F D
  rw [List.map_cons] at g2
  rcases hv with hv | ⟨q, hv⟩
  · rw [hv] at g1 g2
    exact lv_aloadN hx hb hdg g1 g2
  · rw [hv] at g1 g2
    exact lv_aload hx hb hdg g1 g2

theorem gs_istore_n {n : Fin 4} (hok : gp_okd M) (F : gp_F G M p s m args meth c) (D : gp_D G M s V H locs la ls cs ss) {len : Nat} (hdg : decode M.2.1 pc = .ok (.istore_n n, len)) (h : gp_step l G d M K (gp_Go l G d M K) (.istore_n n) len pc ls st V cs ss) : gp_T l G d M K pc st cs ss p e s m args below meth c H locs la := by
  obtain ⟨hx, hb, hml, hr, hlk, hown, hnm, hts, hK, hN, hbs⟩ := id F
  obtain ⟨hcs, hsz, hP, hS, hl, hc1, hs1⟩ := id D
  have hon := hok.2.2.2.2.2.1
  obtain ⟨e0, h2⟩ := gp_ln_e h
  clear h
  subst e0
  obtain ⟨h3, h4⟩ := gp_bt_e h2
  obtain ⟨x, r, rfl, h⟩ := gp_p1_e h4
  have hn := gp_lt_e h3
  rw [hl.2.2.1] at hn
  exact lv_istore_n hx hb hdg rfl hl.has hn rfl (fun la' h' => h p e s m args below meth c H locs la' F (D.ls (gp_lr.st1 (v := .int x) hl h')))

theorem gs_istore {n : Nat} (hok : gp_okd M) (F : gp_F G M p s m args meth c) (D : gp_D G M s V H locs la ls cs ss) {len : Nat} (hdg : decode M.2.1 pc = .ok (.istore n, len)) (h : gp_step l G d M K (gp_Go l G d M K) (.istore n) len pc ls st V cs ss) : gp_T l G d M K pc st cs ss p e s m args below meth c H locs la := by
  obtain ⟨hx, hb, hml, hr, hlk, hown, hnm, hts, hK, hN, hbs⟩ := id F
  obtain ⟨hcs, hsz, hP, hS, hl, hc1, hs1⟩ := id D
  have hon := hok.2.2.2.2.2.1
  obtain ⟨e0, h2⟩ := gp_ln_e h
  clear h
  subst e0
  obtain ⟨h3, h4⟩ := gp_bt_e h2
  obtain ⟨x, r, rfl, h⟩ := gp_p1_e h4
  have hn := gp_lt_e h3
  rw [hl.2.2.1] at hn
  exact lv_istore hx hb hdg hl.has hn rfl (fun la' h' => h p e s m args below meth c H locs la' F (D.ls (gp_lr.st1 (v := .int x) hl h')))

theorem gs_lstore_n {n : Fin 4} (hok : gp_okd M) (F : gp_F G M p s m args meth c) (D : gp_D G M s V H locs la ls cs ss) {len : Nat} (hdg : decode M.2.1 pc = .ok (.lstore_n n, len)) (h : gp_step l G d M K (gp_Go l G d M K) (.lstore_n n) len pc ls st V cs ss) : gp_T l G d M K pc st cs ss p e s m args below meth c H locs la := by
  obtain ⟨hx, hb, hml, hr, hlk, hown, hnm, hts, hK, hN, hbs⟩ := id F
  obtain ⟨hcs, hsz, hP, hS, hl, hc1, hs1⟩ := id D
  have hon := hok.2.2.2.2.2.1
  obtain ⟨e0, h2⟩ := gp_ln_e h
  clear h
  subst e0
  obtain ⟨h3, h4⟩ := gp_bt_e h2
  obtain ⟨x, r, rfl, h⟩ := gp_q1_e h4
  have hn := gp_lt_e h3
  rw [hl.2.2.1] at hn
  exact lv_lstore_n hx hb hdg rfl hl.has hn rfl (fun la' h' => h p e s m args below meth c H locs la' F (D.ls (gp_lr.st2 (v := .long x) hl h')))

theorem gs_lstore {n : Nat} (hok : gp_okd M) (F : gp_F G M p s m args meth c) (D : gp_D G M s V H locs la ls cs ss) {len : Nat} (hdg : decode M.2.1 pc = .ok (.lstore n, len)) (h : gp_step l G d M K (gp_Go l G d M K) (.lstore n) len pc ls st V cs ss) : gp_T l G d M K pc st cs ss p e s m args below meth c H locs la := by
  obtain ⟨hx, hb, hml, hr, hlk, hown, hnm, hts, hK, hN, hbs⟩ := id F
  obtain ⟨hcs, hsz, hP, hS, hl, hc1, hs1⟩ := id D
  have hon := hok.2.2.2.2.2.1
  obtain ⟨e0, h2⟩ := gp_ln_e h
  clear h
  subst e0
  obtain ⟨h3, h4⟩ := gp_bt_e h2
  obtain ⟨x, r, rfl, h⟩ := gp_q1_e h4
  have hn := gp_lt_e h3
  rw [hl.2.2.1] at hn
  exact lv_lstore hx hb hdg hl.has hn rfl (fun la' h' => h p e s m args below meth c H locs la' F (D.ls (gp_lr.st2 (v := .long x) hl h')))

theorem gs_astore_n {n : Fin 4} (hok : gp_okd M) (F : gp_F G M p s m args meth c) (D : gp_D G M s V H locs la ls cs ss) {len : Nat} (hdg : decode M.2.1 pc = .ok (.astore_n n, len)) (h : gp_step l G d M K (gp_Go l G d M K) (.astore_n n) len pc ls st V cs ss) : gp_T l G d M K pc st cs ss p e s m args below meth c H locs la := by
  obtain ⟨hx, hb, hml, hr, hlk, hown, hnm, hts, hK, hN, hbs⟩ := id F
  obtain ⟨hcs, hsz, hP, hS, hl, hc1, hs1⟩ := id D
  have hon := hok.2.2.2.2.2.1
  obtain ⟨e0, h2⟩ := gp_ln_e h
  clear h
  subst e0
  obtain ⟨h3, h4⟩ := gp_bt_e h2
  obtain ⟨v, r, rfl, hv, h⟩ := gp_pA_e h4
  have hn := gp_lt_e h3
  rw [hl.2.2.1] at hn
  rcases hv with ⟨q, rfl⟩ | ⟨q, rfl⟩
  · exact lv_astore_n hx hb hdg rfl hl.has hn rfl (fun la' h' => h p e s m args below meth c H locs la' F (D.ls (gp_lr.st1 (v := .ref q) hl h')))
  · exact lv_astore_n hx hb hdg rfl hl.has hn rfl (fun la' h' => h p e s m args below meth c H locs la' F (D.ls (gp_lr.st1 (v := .retAddr q) hl h')))

theorem gs_astore {n : Nat} (hok : gp_okd M) (F : gp_F G M p s m args meth c) (D : gp_D G M s V H locs la ls cs ss) {len : Nat} (hdg : decode M.2.1 pc = .ok (.astore n, len)) (h : gp_step l G d M K (gp_Go l G d M K) (.astore n) len pc ls st V cs ss) : gp_T l G d M K pc st cs ss p e s m args below meth c H locs la := by
  obtain ⟨hx, hb, hml, hr, hlk, hown, hnm, hts, hK, hN, hbs⟩ := id F
  obtain ⟨hcs, hsz, hP, hS, hl, hc1, hs1⟩ := id D
  have hon := hok.2.2.2.2.2.1
  obtain ⟨e0, h2⟩ := gp_ln_e h
  clear h
  subst e0
  obtain ⟨h3, h4⟩ := gp_bt_e h2
  obtain ⟨v, r, rfl, hv, h⟩ := gp_pA_e h4
  have hn := gp_lt_e h3
  rw [hl.2.2.1] at hn
  rcases hv with ⟨q, rfl⟩ | ⟨q, rfl⟩
  · exact lv_astore hx hb hdg hl.has hn rfl (fun la' h' => h p e s m args below meth c H locs la' F (D.ls (gp_lr.st1 (v := .ref q) hl h')))
  · exact lv_astore hx hb hdg hl.has hn rfl (fun la' h' => h p e s m args below meth c H locs la' F (D.ls (gp_lr.st1 (v := .retAddr q) hl h')))

theorem gs_iinc {n : Nat} {k : Int} (hok : gp_okd M) (F : gp_F G M p s m args meth c) (D : gp_D G M s V H locs la ls cs ss) {len : Nat} (hdg : decode M.2.1 pc = .ok (.iinc n k, len)) (h : gp_step l G d M K (gp_Go l G d M K) (.iinc n k) len pc ls st V cs ss) : gp_T l G d M K pc st cs ss p e s m args below meth c H locs la := by
  obtain ⟨hx, hb, hml, hr, hlk, hown, hnm, hts, hK, hN, hbs⟩ := id F
  obtain ⟨hcs, hsz, hP, hS, hl, hc1, hs1⟩ := id D
  have hon := hok.2.2.2.2.2.1
  obtain ⟨e0, h2⟩ := gp_ln_e h
  clear h
  subst e0
  obtain ⟨h3, h4⟩ := gp_bt_e h2
  obtain ⟨x, h1, h⟩ := gp_ldI_e h4
  have hn := gp_lt_e h3
  rw [hl.2.2.1] at hn
  obtain ⟨j, hj⟩ := List.getElem?_of_mem (gp_pl_mem (G := G) hn h1)
  exact lv_iinc hx hb hdg hl.has hj rfl hn rfl (fun la' h' => h p e s m args below meth c H locs la' F (D.ls (gp_lr.st1 (v := .int (x + Int32.ofInt k)) hl h')))

theorem gs_iconst {n : Int} (hok : gp_okd M) (F : gp_F G M p s m args meth c) (D : gp_D G M s V H locs la ls cs ss) {len : Nat} (hdg : decode M.2.1 pc = .ok (.iconst n, len)) (h : gp_step l G d M K (gp_Go l G d M K) (.iconst n) len pc ls st V cs ss) : gp_T l G d M K pc st cs ss p e s m args below meth c H locs la := by
  obtain ⟨hx, hb, hml, hr, hlk, hown, hnm, hts, hK, hN, hbs⟩ := id F
  obtain ⟨hcs, hsz, hP, hS, hl, hc1, hs1⟩ := id D
  have hon := hok.2.2.2.2.2.1
  obtain ⟨e0, h2⟩ := gp_ln_e h
  clear h
  subst e0
  exact lv_iconst hx hb hdg rfl (h2 p e s m args below meth c H locs la F D)

theorem gs_bipush {n : Int} (hok : gp_okd M) (F : gp_F G M p s m args meth c) (D : gp_D G M s V H locs la ls cs ss) {len : Nat} (hdg : decode M.2.1 pc = .ok (.bipush n, len)) (h : gp_step l G d M K (gp_Go l G d M K) (.bipush n) len pc ls st V cs ss) : gp_T l G d M K pc st cs ss p e s m args below meth c H locs la := by
  obtain ⟨hx, hb, hml, hr, hlk, hown, hnm, hts, hK, hN, hbs⟩ := id F
  obtain ⟨hcs, hsz, hP, hS, hl, hc1, hs1⟩ := id D
  have hon := hok.2.2.2.2.2.1
  obtain ⟨e0, h2⟩ := gp_ln_e h
  clear h
  subst e0
  exact lv_bipush hx hb hdg rfl (h2 p e s m args below meth c H locs la F D)

theorem gs_sipush {n : Int} (hok : gp_okd M) (F : gp_F G M p s m args meth c) (D : gp_D G M s V H locs la ls cs ss) {len : Nat} (hdg : decode M.2.1 pc = .ok (.sipush n, len)) (h : gp_step l G d M K (gp_Go l G d M K) (.sipush n) len pc ls st V cs ss) : gp_T l G d M K pc st cs ss p e s m args below meth c H locs la := by
  obtain ⟨hx, hb, hml, hr, hlk, hown, hnm, hts, hK, hN, hbs⟩ := id F
  obtain ⟨hcs, hsz, hP, hS, hl, hc1, hs1⟩ := id D
  have hon := hok.2.2.2.2.2.1
  obtain ⟨e0, h2⟩ := gp_ln_e h
  clear h
  subst e0
  exact lv_sipush hx hb hdg rfl (h2 p e s m args below meth c H locs la F D)

theorem gs_lconst {n : Fin 2} (hok : gp_okd M) (F : gp_F G M p s m args meth c) (D : gp_D G M s V H locs la ls cs ss) {len : Nat} (hdg : decode M.2.1 pc = .ok (.lconst n, len)) (h : gp_step l G d M K (gp_Go l G d M K) (.lconst n) len pc ls st V cs ss) : gp_T l G d M K pc st cs ss p e s m args below meth c H locs la := by
  obtain ⟨hx, hb, hml, hr, hlk, hown, hnm, hts, hK, hN, hbs⟩ := id F
  obtain ⟨hcs, hsz, hP, hS, hl, hc1, hs1⟩ := id D
  have hon := hok.2.2.2.2.2.1
  obtain ⟨e0, h2⟩ := gp_ln_e h
  clear h
  subst e0
  exact lv_lconst hx hb hdg rfl (h2 p e s m args below meth c H locs la F D)

theorem gs_ldc {idx : Nat} (hok : gp_okd M) (F : gp_F G M p s m args meth c) (D : gp_D G M s V H locs la ls cs ss) {len : Nat} (hdg : decode M.2.1 pc = .ok (.ldc idx, len)) (h : gp_step l G d M K (gp_Go l G d M K) (.ldc idx) len pc ls st V cs ss) : gp_T l G d M K pc st cs ss p e s m args below meth c H locs la := by
  obtain ⟨hx, hb, hml, hr, hlk, hown, hnm, hts, hK, hN, hbs⟩ := id F
  obtain ⟨hcs, hsz, hP, hS, hl, hc1, hs1⟩ := id D
  have hon := hok.2.2.2.2.2.1
  obtain ⟨e0, h2⟩ := gp_ln_e h
  clear h
  subst e0
  split at h2
  · rename_i i h0
    obtain ⟨tx, f⟩ := gp_sA _ _ hon _ (gp_lk_mem h0)
    exact va_ldcS hx hb hown (hN.2.2.2.1 _ _ f) hdg (h2 p e s m args below meth c H locs la F D)
  · obtain ⟨v, h0, h⟩ := gp_row_e h2
    exact lv_ldc hx hb hown (hts _ (gp_kA _ _ hon _ (gp_lk_mem h0))) hdg (h p e s m args below meth c H locs la F D)

theorem gs_ldc_w {idx : Nat} (hok : gp_okd M) (F : gp_F G M p s m args meth c) (D : gp_D G M s V H locs la ls cs ss) {len : Nat} (hdg : decode M.2.1 pc = .ok (.ldc_w idx, len)) (h : gp_step l G d M K (gp_Go l G d M K) (.ldc_w idx) len pc ls st V cs ss) : gp_T l G d M K pc st cs ss p e s m args below meth c H locs la := by
  obtain ⟨hx, hb, hml, hr, hlk, hown, hnm, hts, hK, hN, hbs⟩ := id F
  obtain ⟨hcs, hsz, hP, hS, hl, hc1, hs1⟩ := id D
  have hon := hok.2.2.2.2.2.1
  obtain ⟨e0, h2⟩ := gp_ln_e h
  clear h
  subst e0
  obtain ⟨v, h0, h⟩ := gp_row_e h2
  exact lv_ldcw hx hb hown (hts _ (gp_kA _ _ hon _ (gp_lk_mem h0))) hdg (h p e s m args below meth c H locs la F D)

theorem gs_ldc2_w {idx : Nat} (hok : gp_okd M) (F : gp_F G M p s m args meth c) (D : gp_D G M s V H locs la ls cs ss) {len : Nat} (hdg : decode M.2.1 pc = .ok (.ldc2_w idx, len)) (h : gp_step l G d M K (gp_Go l G d M K) (.ldc2_w idx) len pc ls st V cs ss) : gp_T l G d M K pc st cs ss p e s m args below meth c H locs la := by
  obtain ⟨hx, hb, hml, hr, hlk, hown, hnm, hts, hK, hN, hbs⟩ := id F
  obtain ⟨hcs, hsz, hP, hS, hl, hc1, hs1⟩ := id D
  have hon := hok.2.2.2.2.2.1
  obtain ⟨e0, h2⟩ := gp_ln_e h
  clear h
  subst e0
  obtain ⟨v, h0, h⟩ := gp_row_e h2
  exact lv_ldc2 hx hb hown (hts _ (gp_LA _ _ hon _ (gp_lk_mem h0))) hdg (h p e s m args below meth c H locs la F D)

theorem gs_iadd (hok : gp_okd M) (F : gp_F G M p s m args meth c) (D : gp_D G M s V H locs la ls cs ss) {len : Nat} (hdg : decode M.2.1 pc = .ok (.iadd, len)) (h : gp_step l G d M K (gp_Go l G d M K) (.iadd) len pc ls st V cs ss) : gp_T l G d M K pc st cs ss p e s m args below meth c H locs la := by
  obtain ⟨hx, hb, hml, hr, hlk, hown, hnm, hts, hK, hN, hbs⟩ := id F
  obtain ⟨hcs, hsz, hP, hS, hl, hc1, hs1⟩ := id D
  have hon := hok.2.2.2.2.2.1
  obtain ⟨e0, h2⟩ := gp_ln_e h
  clear h
  subst e0
  obtain ⟨x, y, r, rfl, h⟩ := gp_p2_e h2
  exact lv_iadd hx hb hdg (h p e s m args below meth c H locs la F D)

theorem gs_isub (hok : gp_okd M) (F : gp_F G M p s m args meth c) (D : gp_D G M s V H locs la ls cs ss) {len : Nat} (hdg : decode M.2.1 pc = .ok (.isub, len)) (h : gp_step l G d M K (gp_Go l G d M K) (.isub) len pc ls st V cs ss) : gp_T l G d M K pc st cs ss p e s m args below meth c H locs la := by
  obtain ⟨hx, hb, hml, hr, hlk, hown, hnm, hts, hK, hN, hbs⟩ := id F
  obtain ⟨hcs, hsz, hP, hS, hl, hc1, hs1⟩ := id D
  have hon := hok.2.2.2.2.2.1
  obtain ⟨e0, h2⟩ := gp_ln_e h
  clear h
  subst e0
  obtain ⟨x, y, r, rfl, h⟩ := gp_p2_e h2
  exact lv_isub hx hb hdg (h p e s m args below meth c H locs la F D)

theorem gs_imul (hok : gp_okd M) (F : gp_F G M p s m args meth c) (D : gp_D G M s V H locs la ls cs ss) {len : Nat} (hdg : decode M.2.1 pc = .ok (.imul, len)) (h : gp_step l G d M K (gp_Go l G d M K) (.imul) len pc ls st V cs ss) : gp_T l G d M K pc st cs ss p e s m args below meth c H locs la := by
  obtain ⟨hx, hb, hml, hr, hlk, hown, hnm, hts, hK, hN, hbs⟩ := id F
  obtain ⟨hcs, hsz, hP, hS, hl, hc1, hs1⟩ := id D
  have hon := hok.2.2.2.2.2.1
  obtain ⟨e0, h2⟩ := gp_ln_e h
  clear h
  subst e0
  obtain ⟨x, y, r, rfl, h⟩ := gp_p2_e h2
  exact lv_imul hx hb hdg (h p e s m args below meth c H locs la F D)

theorem gs_iand (hok : gp_okd M) (F : gp_F G M p s m args meth c) (D : gp_D G M s V H locs la ls cs ss) {len : Nat} (hdg : decode M.2.1 pc = .ok (.iand, len)) (h : gp_step l G d M K (gp_Go l G d M K) (.iand) len pc ls st V cs ss) : gp_T l G d M K pc st cs ss p e s m args below meth c H locs la := by
  obtain ⟨hx, hb, hml, hr, hlk, hown, hnm, hts, hK, hN, hbs⟩ := id F
  obtain ⟨hcs, hsz, hP, hS, hl, hc1, hs1⟩ := id D
  have hon := hok.2.2.2.2.2.1
  obtain ⟨e0, h2⟩ := gp_ln_e h
  clear h
  subst e0
  obtain ⟨x, y, r, rfl, h⟩ := gp_p2_e h2
  exact lv_iand hx hb hdg (h p e s m args below meth c H locs la F D)

theorem gs_ior (hok : gp_okd M) (F : gp_F G M p s m args meth c) (D : gp_D G M s V H locs la ls cs ss) {len : Nat} (hdg : decode M.2.1 pc = .ok (.ior, len)) (h : gp_step l G d M K (gp_Go l G d M K) (.ior) len pc ls st V cs ss) : gp_T l G d M K pc st cs ss p e s m args below meth c H locs la := by
  obtain ⟨hx, hb, hml, hr, hlk, hown, hnm, hts, hK, hN, hbs⟩ := id F
  obtain ⟨hcs, hsz, hP, hS, hl, hc1, hs1⟩ := id D
  have hon := hok.2.2.2.2.2.1
  obtain ⟨e0, h2⟩ := gp_ln_e h
  clear h
  subst e0
  obtain ⟨x, y, r, rfl, h⟩ := gp_p2_e h2
  exact lv_ior hx hb hdg (h p e s m args below meth c H locs la F D)

theorem gs_ixor (hok : gp_okd M) (F : gp_F G M p s m args meth c) (D : gp_D G M s V H locs la ls cs ss) {len : Nat} (hdg : decode M.2.1 pc = .ok (.ixor, len)) (h : gp_step l G d M K (gp_Go l G d M K) (.ixor) len pc ls st V cs ss) : gp_T l G d M K pc st cs ss p e s m args below meth c H locs la := by
  obtain ⟨hx, hb, hml, hr, hlk, hown, hnm, hts, hK, hN, hbs⟩ := id F
  obtain ⟨hcs, hsz, hP, hS, hl, hc1, hs1⟩ := id D
  have hon := hok.2.2.2.2.2.1
  obtain ⟨e0, h2⟩ := gp_ln_e h
  clear h
  subst e0
  obtain ⟨x, y, r, rfl, h⟩ := gp_p2_e h2
  exact lv_ixor hx hb hdg (h p e s m args below meth c H locs la F D)

theorem gs_ishl (hok : gp_okd M) (F : gp_F G M p s m args meth c) (D : gp_D G M s V H locs la ls cs ss) {len : Nat} (hdg : decode M.2.1 pc = .ok (.ishl, len)) (h : gp_step l G d M K (gp_Go l G d M K) (.ishl) len pc ls st V cs ss) : gp_T l G d M K pc st cs ss p e s m args below meth c H locs la := by
  obtain ⟨hx, hb, hml, hr, hlk, hown, hnm, hts, hK, hN, hbs⟩ := id F
  obtain ⟨hcs, hsz, hP, hS, hl, hc1, hs1⟩ := id D
  have hon := hok.2.2.2.2.2.1
  obtain ⟨e0, h2⟩ := gp_ln_e h
  clear h
  subst e0
  obtain ⟨x, y, r, rfl, h⟩ := gp_p2_e h2
  exact lv_ishl hx hb hdg (h p e s m args below meth c H locs la F D)

theorem gs_ishr (hok : gp_okd M) (F : gp_F G M p s m args meth c) (D : gp_D G M s V H locs la ls cs ss) {len : Nat} (hdg : decode M.2.1 pc = .ok (.ishr, len)) (h : gp_step l G d M K (gp_Go l G d M K) (.ishr) len pc ls st V cs ss) : gp_T l G d M K pc st cs ss p e s m args below meth c H locs la := by
  obtain ⟨hx, hb, hml, hr, hlk, hown, hnm, hts, hK, hN, hbs⟩ := id F
  obtain ⟨hcs, hsz, hP, hS, hl, hc1, hs1⟩ := id D
  have hon := hok.2.2.2.2.2.1
  obtain ⟨e0, h2⟩ := gp_ln_e h
  clear h
  subst e0
  obtain ⟨x, y, r, rfl, h⟩ := gp_p2_e h2
  exact lv_ishr hx hb hdg (h p e s m args below meth c H locs la F D)

theorem gs_idiv (hok : gp_okd M) (F : gp_F G M p s m args meth c) (D : gp_D G M s V H locs la ls cs ss) {len : Nat} (hdg : decode M.2.1 pc = .ok (.idiv, len)) (h : gp_step l G d M K (gp_Go l G d M K) (.idiv) len pc ls st V cs ss) : gp_T l G d M K pc st cs ss p e s m args below meth c H locs la := by
  obtain ⟨hx, hb, hml, hr, hlk, hown, hnm, hts, hK, hN, hbs⟩ := id F
  obtain ⟨hcs, hsz, hP, hS, hl, hc1, hs1⟩ := id D
  have hon := hok.2.2.2.2.2.1
  obtain ⟨e0, h2⟩ := gp_ln_e h
  clear h
  subst e0
  obtain ⟨x, y, r, rfl, h1, h⟩ := gp_p2_e h2
  exact lv_idiv hx hb hdg h1 (h p e s m args below meth c H locs la F D)

theorem gs_irem (hok : gp_okd M) (F : gp_F G M p s m args meth c) (D : gp_D G M s V H locs la ls cs ss) {len : Nat} (hdg : decode M.2.1 pc = .ok (.irem, len)) (h : gp_step l G d M K (gp_Go l G d M K) (.irem) len pc ls st V cs ss) : gp_T l G d M K pc st cs ss p e s m args below meth c H locs la := by
  obtain ⟨hx, hb, hml, hr, hlk, hown, hnm, hts, hK, hN, hbs⟩ := id F
  obtain ⟨hcs, hsz, hP, hS, hl, hc1, hs1⟩ := id D
  have hon := hok.2.2.2.2.2.1
  obtain ⟨e0, h2⟩ := gp_ln_e h
  clear h
  subst e0
  obtain ⟨x, y, r, rfl, h1, h⟩ := gp_p2_e h2
  exact lv_irem hx hb hdg h1 (h p e s m args below meth c H locs la F D)

theorem gs_iushr (hok : gp_okd M) (F : gp_F G M p s m args meth c) (D : gp_D G M s V H locs la ls cs ss) {len : Nat} (hdg : decode M.2.1 pc = .ok (.iushr, len)) (h : gp_step l G d M K (gp_Go l G d M K) (.iushr) len pc ls st V cs ss) : gp_T l G d M K pc st cs ss p e s m args below meth c H locs la := by
  obtain ⟨hx, hb, hml, hr, hlk, hown, hnm, hts, hK, hN, hbs⟩ := id F
  obtain ⟨hcs, hsz, hP, hS, hl, hc1, hs1⟩ := id D
  have hon := hok.2.2.2.2.2.1
  obtain ⟨e0, h2⟩ := gp_ln_e h
  clear h
  subst e0
  obtain ⟨x, y, r, rfl, h⟩ := gp_p2_e h2
  exact lv_iushr hx hb hdg rfl (h p e s m args below meth c H locs la F D)

theorem gs_ineg (hok : gp_okd M) (F : gp_F G M p s m args meth c) (D : gp_D G M s V H locs la ls cs ss) {len : Nat} (hdg : decode M.2.1 pc = .ok (.ineg, len)) (h : gp_step l G d M K (gp_Go l G d M K) (.ineg) len pc ls st V cs ss) : gp_T l G d M K pc st cs ss p e s m args below meth c H locs la := by
  obtain ⟨hx, hb, hml, hr, hlk, hown, hnm, hts, hK, hN, hbs⟩ := id F
  obtain ⟨hcs, hsz, hP, hS, hl, hc1, hs1⟩ := id D
  have hon := hok.2.2.2.2.2.1
  obtain ⟨e0, h2⟩ := gp_ln_e h
  clear h
  subst e0
  obtain ⟨x, r, rfl, h⟩ := gp_p1_e h2
  exact lv_ineg hx hb hdg (h p e s m args below meth c H locs la F D)

theorem gs_i2l (hok : gp_okd M) (F : gp_F G M p s m args meth c) (D : gp_D G M s V H locs la ls cs ss) {len : Nat} (hdg : decode M.2.1 pc = .ok (.i2l, len)) (h : gp_step l G d M K (gp_Go l G d M K) (.i2l) len pc ls st V cs ss) : gp_T l G d M K pc st cs ss p e s m args below meth c H locs la := by
  obtain ⟨hx, hb, hml, hr, hlk, hown, hnm, hts, hK, hN, hbs⟩ := id F
  obtain ⟨hcs, hsz, hP, hS, hl, hc1, hs1⟩ := id D
  have hon := hok.2.2.2.2.2.1
  obtain ⟨e0, h2⟩ := gp_ln_e h
  clear h
  subst e0
  obtain ⟨x, r, rfl, h⟩ := gp_p1_e h2
  exact lv_i2l hx hb hdg rfl (h p e s m args below meth c H locs la F D)

theorem gs_i2b (hok : gp_okd M) (F : gp_F G M p s m args meth c) (D : gp_D G M s V H locs la ls cs ss) {len : Nat} (hdg : decode M.2.1 pc = .ok (.i2b, len)) (h : gp_step l G d M K (gp_Go l G d M K) (.i2b) len pc ls st V cs ss) : gp_T l G d M K pc st cs ss p e s m args below meth c H locs la := by
  obtain ⟨hx, hb, hml, hr, hlk, hown, hnm, hts, hK, hN, hbs⟩ := id F
  obtain ⟨hcs, hsz, hP, hS, hl, hc1, hs1⟩ := id D
  have hon := hok.2.2.2.2.2.1
  obtain ⟨e0, h2⟩ := gp_ln_e h
  clear h
  subst e0
  obtain ⟨x, r, rfl, h⟩ := gp_p1_e h2
  exact lv_i2b hx hb hdg rfl (h p e s m args below meth c H locs la F D)

theorem gs_i2c (hok : gp_okd M) (F : gp_F G M p s m args meth c) (D : gp_D G M s V H locs la ls cs ss) {len : Nat} (hdg : decode M.2.1 pc = .ok (.i2c, len)) (h : gp_step l G d M K (gp_Go l G d M K) (.i2c) len pc ls st V cs ss) : gp_T l G d M K pc st cs ss p e s m args below meth c H locs la := by
  obtain ⟨hx, hb, hml, hr, hlk, hown, hnm, hts, hK, hN, hbs⟩ := id F
  obtain ⟨hcs, hsz, hP, hS, hl, hc1, hs1⟩ := id D
  have hon := hok.2.2.2.2.2.1
  obtain ⟨e0, h2⟩ := gp_ln_e h
  clear h
  subst e0
  obtain ⟨x, r, rfl, h⟩ := gp_p1_e h2
  exact lv_i2c hx hb hdg rfl (h p e s m args below meth c H locs la F D)

theorem gs_l2i (hok : gp_okd M) (F : gp_F G M p s m args meth c) (D : gp_D G M s V H locs la ls cs ss) {len : Nat} (hdg : decode M.2.1 pc = .ok (.l2i, len)) (h : gp_step l G d M K (gp_Go l G d M K) (.l2i) len pc ls st V cs ss) : gp_T l G d M K pc st cs ss p e s m args below meth c H locs la := by
  obtain ⟨hx, hb, hml, hr, hlk, hown, hnm, hts, hK, hN, hbs⟩ := id F
  obtain ⟨hcs, hsz, hP, hS, hl, hc1, hs1⟩ := id D
  have hon := hok.2.2.2.2.2.1
  obtain ⟨e0, h2⟩ := gp_ln_e h
  clear h
  subst e0
  obtain ⟨x, r, rfl, h⟩ := gp_q1_e h2
  exact lv_l2i hx hb hdg rfl (h p e s m args below meth c H locs la F D)

theorem gs_ladd (hok : gp_okd M) (F : gp_F G M p s m args meth c) (D : gp_D G M s V H locs la ls cs ss) {len : Nat} (hdg : decode M.2.1 pc = .ok (.ladd, len)) (h : gp_step l G d M K (gp_Go l G d M K) (.ladd) len pc ls st V cs ss) : gp_T l G d M K pc st cs ss p e s m args below meth c H locs la := by
  obtain ⟨hx, hb, hml, hr, hlk, hown, hnm, hts, hK, hN, hbs⟩ := id F
  obtain ⟨hcs, hsz, hP, hS, hl, hc1, hs1⟩ := id D
  have hon := hok.2.2.2.2.2.1
  obtain ⟨e0, h2⟩ := gp_ln_e h
  clear h
  subst e0
  obtain ⟨x, y, r, rfl, h⟩ := gp_q2_e h2
  exact lv_ladd hx hb hdg (h p e s m args below meth c H locs la F D)

theorem gs_lmul (hok : gp_okd M) (F : gp_F G M p s m args meth c) (D : gp_D G M s V H locs la ls cs ss) {len : Nat} (hdg : decode M.2.1 pc = .ok (.lmul, len)) (h : gp_step l G d M K (gp_Go l G d M K) (.lmul) len pc ls st V cs ss) : gp_T l G d M K pc st cs ss p e s m args below meth c H locs la := by
  obtain ⟨hx, hb, hml, hr, hlk, hown, hnm, hts, hK, hN, hbs⟩ := id F
  obtain ⟨hcs, hsz, hP, hS, hl, hc1, hs1⟩ := id D
  have hon := hok.2.2.2.2.2.1
  obtain ⟨e0, h2⟩ := gp_ln_e h
  clear h
  subst e0
  obtain ⟨x, y, r, rfl, h⟩ := gp_q2_e h2
  exact lv_lmul hx hb hdg (h p e s m args below meth c H locs la F D)

theorem gs_lor (hok : gp_okd M) (F : gp_F G M p s m args meth c) (D : gp_D G M s V H locs la ls cs ss) {len : Nat} (hdg : decode M.2.1 pc = .ok (.lor, len)) (h : gp_step l G d M K (gp_Go l G d M K) (.lor) len pc ls st V cs ss) : gp_T l G d M K pc st cs ss p e s m args below meth c H locs la := by
  obtain ⟨hx, hb, hml, hr, hlk, hown, hnm, hts, hK, hN, hbs⟩ := id F
  obtain ⟨hcs, hsz, hP, hS, hl, hc1, hs1⟩ := id D
  have hon := hok.2.2.2.2.2.1
  obtain ⟨e0, h2⟩ := gp_ln_e h
  clear h
  subst e0
  obtain ⟨x, y, r, rfl, h⟩ := gp_q2_e h2
  exact lv_lor hx hb hdg (h p e s m args below meth c H locs la F D)

theorem gs_ldiv (hok : gp_okd M) (F : gp_F G M p s m args meth c) (D : gp_D G M s V H locs la ls cs ss) {len : Nat} (hdg : decode M.2.1 pc = .ok (.ldiv, len)) (h : gp_step l G d M K (gp_Go l G d M K) (.ldiv) len pc ls st V cs ss) : gp_T l G d M K pc st cs ss p e s m args below meth c H locs la := by
  obtain ⟨hx, hb, hml, hr, hlk, hown, hnm, hts, hK, hN, hbs⟩ := id F
  obtain ⟨hcs, hsz, hP, hS, hl, hc1, hs1⟩ := id D
  have hon := hok.2.2.2.2.2.1
  obtain ⟨e0, h2⟩ := gp_ln_e h
  clear h
  subst e0
  obtain ⟨x, y, r, rfl, h1, h⟩ := gp_q2_e h2
  exact lv_ldiv hx hb hdg h1 (h p e s m args below meth c H locs la F D)

theorem gs_lcmp (hok : gp_okd M) (F : gp_F G M p s m args meth c) (D : gp_D G M s V H locs la ls cs ss) {len : Nat} (hdg : decode M.2.1 pc = .ok (.lcmp, len)) (h : gp_step l G d M K (gp_Go l G d M K) (.lcmp) len pc ls st V cs ss) : gp_T l G d M K pc st cs ss p e s m args below meth c H locs la := by
  obtain ⟨hx, hb, hml, hr, hlk, hown, hnm, hts, hK, hN, hbs⟩ := id F
  obtain ⟨hcs, hsz, hP, hS, hl, hc1, hs1⟩ := id D
  have hon := hok.2.2.2.2.2.1
  obtain ⟨e0, h2⟩ := gp_ln_e h
  clear h
  subst e0
  obtain ⟨x, y, r, rfl, h⟩ := gp_q2_e h2
  exact W.lcmp hx hb hdg (h p e s m args below meth c H locs la F D)

theorem gs_lshl (hok : gp_okd M) (F : gp_F G M p s m args meth c) (D : gp_D G M s V H locs la ls cs ss) {len : Nat} (hdg : decode M.2.1 pc = .ok (.lshl, len)) (h : gp_step l G d M K (gp_Go l G d M K) (.lshl) len pc ls st V cs ss) : gp_T l G d M K pc st cs ss p e s m args below meth c H locs la := by
  obtain ⟨hx, hb, hml, hr, hlk, hown, hnm, hts, hK, hN, hbs⟩ := id F
  obtain ⟨hcs, hsz, hP, hS, hl, hc1, hs1⟩ := id D
  have hon := hok.2.2.2.2.2.1
  obtain ⟨e0, h2⟩ := gp_ln_e h
  clear h
  subst e0
  obtain ⟨x, y, r, rfl, h⟩ := gp_qs_e h2
  exact lv_lshl hx hb hdg rfl (h p e s m args below meth c H locs la F D)

theorem gs_lushr (hok : gp_okd M) (F : gp_F G M p s m args meth c) (D : gp_D G M s V H locs la ls cs ss) {len : Nat} (hdg : decode M.2.1 pc = .ok (.lushr, len)) (h : gp_step l G d M K (gp_Go l G d M K) (.lushr) len pc ls st V cs ss) : gp_T l G d M K pc st cs ss p e s m args below meth c H locs la := by
  obtain ⟨hx, hb, hml, hr, hlk, hown, hnm, hts, hK, hN, hbs⟩ := id F
  obtain ⟨hcs, hsz, hP, hS, hl, hc1, hs1⟩ := id D
  have hon := hok.2.2.2.2.2.1
  obtain ⟨e0, h2⟩ := gp_ln_e h
  clear h
  subst e0
  obtain ⟨x, y, r, rfl, h⟩ := gp_qs_e h2
  exact lv_lushr hx hb hdg rfl (h p e s m args below meth c H locs la F D)

theorem gp_cat1 (G : gp_G) {v : Value} (h : gp_sz [v] = 1) : (gp_mv G v).category = 1 := by
  rw [gp_mv_cat]
  cases v <;> simp [gp_sz] at h <;> rfl

theorem gs_dup (hok : gp_okd M) (F : gp_F G M p s m args meth c) (D : gp_D G M s V H locs la ls cs ss) {len : Nat} (hdg : decode M.2.1 pc = .ok (.dup, len)) (h : gp_step l G d M K (gp_Go l G d M K) (.dup) len pc ls st V cs ss) : gp_T l G d M K pc st cs ss p e s m args below meth c H locs la := by
  obtain ⟨hx, hb, hml, hr, hlk, hown, hnm, hts, hK, hN, hbs⟩ := id F
  obtain ⟨hcs, hsz, hP, hS, hl, hc1, hs1⟩ := id D
  have hon := hok.2.2.2.2.2.1
  obtain ⟨e0, h2⟩ := gp_ln_e h
  clear h
  subst e0
  split at h2
  · obtain ⟨h3, h⟩ := gp_ln_e h2
    exact lv_dup hx hb hdg (gp_cat1 G h3) (h p e s m args below meth c H locs la F D)
  · exact h2.elim

theorem gs_pop (hok : gp_okd M) (F : gp_F G M p s m args meth c) (D : gp_D G M s V H locs la ls cs ss) {len : Nat} (hdg : decode M.2.1 pc = .ok (.pop, len)) (h : gp_step l G d M K (gp_Go l G d M K) (.pop) len pc ls st V cs ss) : gp_T l G d M K pc st cs ss p e s m args below meth c H locs la := by
  obtain ⟨hx, hb, hml, hr, hlk, hown, hnm, hts, hK, hN, hbs⟩ := id F
  obtain ⟨hcs, hsz, hP, hS, hl, hc1, hs1⟩ := id D
  have hon := hok.2.2.2.2.2.1
  obtain ⟨e0, h2⟩ := gp_ln_e h
  clear h
  subst e0
  split at h2
  · obtain ⟨h3, h⟩ := gp_ln_e h2
    exact lv_pop hx hb hdg (gp_cat1 G h3) (h p e s m args below meth c H locs la F D)
  · exact h2.elim

theorem gs_dup2 (hok : gp_okd M) (F : gp_F G M p s m args meth c) (D : gp_D G M s V H locs la ls cs ss) {len : Nat} (hdg : decode M.2.1 pc = .ok (.dup2, len)) (h : gp_step l G d M K (gp_Go l G d M K) (.dup2) len pc ls st V cs ss) : gp_T l G d M K pc st cs ss p e s m args below meth c H locs la := by
  obtain ⟨hx, hb, hml, hr, hlk, hown, hnm, hts, hK, hN, hbs⟩ := id F
  obtain ⟨hcs, hsz, hP, hS, hl, hc1, hs1⟩ := id D
  have hon := hok.2.2.2.2.2.1
  obtain ⟨e0, h2⟩ := gp_ln_e h
  clear h
  subst e0
  split at h2
  · obtain ⟨h3, h4⟩ := gp_ln_e h2
    obtain ⟨h5, h⟩ := gp_ln_e h4
    exact lv_dup2_11 hx hb hdg (gp_cat1 G h3) (gp_cat1 G h5) (h p e s m args below meth c H locs la F D)
  · exact h2.elim

theorem gs_ifCond {k : Jvm.ClassFile.Cond} {off : Int} (hok : gp_okd M) (F : gp_F G M p s m args meth c) (D : gp_D G M s V H locs la ls cs ss) {len : Nat} (hdg : decode M.2.1 pc = .ok (.ifCond k off, len)) (h : gp_step l G d M K (gp_Go l G d M K) (.ifCond k off) len pc ls st V cs ss) : gp_T l G d M K pc st cs ss p e s m args below meth c H locs la := by
  obtain ⟨hx, hb, hml, hr, hlk, hown, hnm, hts, hK, hN, hbs⟩ := id F
  obtain ⟨hcs, hsz, hP, hS, hl, hc1, hs1⟩ := id D
  have hon := hok.2.2.2.2.2.1
  obtain ⟨e0, h2⟩ := gp_ln_e h
  clear h
  subst e0
  obtain ⟨x, r, rfl, h3⟩ := gp_p1_e h2
  obtain ⟨t, e1, h⟩ := gp_j_e h3
  cases k with
  | eq => exact lv_if_eq hx hb hdg e1 (fun q => h.1 q p e s m args below meth c H locs la F D) (fun q => h.2 q p e s m args below meth c H locs la F D)
  | ne => exact lv_if_ne hx hb hdg e1 (fun q => h.1 q p e s m args below meth c H locs la F D) (fun q => h.2 q p e s m args below meth c H locs la F D)
  | lt => exact lv_if_lt hx hb hdg e1 (fun q => h.1 q p e s m args below meth c H locs la F D) (fun q => h.2 q p e s m args below meth c H locs la F D)
  | ge => exact lv_if_ge hx hb hdg e1 (fun q => h.1 q p e s m args below meth c H locs la F D) (fun q => h.2 q p e s m args below meth c H locs la F D)
  | gt => exact lv_if_gt hx hb hdg e1 (fun q => h.1 q p e s m args below meth c H locs la F D) (fun q => h.2 q p e s m args below meth c H locs la F D)
  | le => exact lv_if_le hx hb hdg e1 (fun q => h.1 q p e s m args below meth c H locs la F D) (fun q => h.2 q p e s m args below meth c H locs la F D)

theorem gs_if_icmp {k : Jvm.ClassFile.Cond} {off : Int} (hok : gp_okd M) (F : gp_F G M p s m args meth c) (D : gp_D G M s V H locs la ls cs ss) {len : Nat} (hdg : decode M.2.1 pc = .ok (.if_icmp k off, len)) (h : gp_step l G d M K (gp_Go l G d M K) (.if_icmp k off) len pc ls st V cs ss) : gp_T l G d M K pc st cs ss p e s m args below meth c H locs la := by
  obtain ⟨hx, hb, hml, hr, hlk, hown, hnm, hts, hK, hN, hbs⟩ := id F
  obtain ⟨hcs, hsz, hP, hS, hl, hc1, hs1⟩ := id D
  have hon := hok.2.2.2.2.2.1
  obtain ⟨e0, h2⟩ := gp_ln_e h
  clear h
  subst e0
  obtain ⟨x, y, r, rfl, h3⟩ := gp_p2_e h2
  obtain ⟨t, e1, h⟩ := gp_j_e h3
  cases k with
  | eq => exact lv_icmp_eq hx hb hdg e1 (fun q => h.1 q p e s m args below meth c H locs la F D) (fun q => h.2 q p e s m args below meth c H locs la F D)
  | ne => exact lv_icmp_ne hx hb hdg e1 (fun q => h.1 q p e s m args below meth c H locs la F D) (fun q => h.2 q p e s m args below meth c H locs la F D)
  | lt => exact lv_icmp_lt hx hb hdg e1 (fun q => h.1 q p e s m args below meth c H locs la F D) (fun q => h.2 q p e s m args below meth c H locs la F D)
  | ge => exact lv_icmp_ge hx hb hdg e1 (fun q => h.1 q p e s m args below meth c H locs la F D) (fun q => h.2 q p e s m args below meth c H locs la F D)
  | gt => exact lv_icmp_gt hx hb hdg e1 (fun q => h.1 q p e s m args below meth c H locs la F D) (fun q => h.2 q p e s m args below meth c H locs la F D)
  | le => exact lv_icmp_le hx hb hdg e1 (fun q => h.1 q p e s m args below meth c H locs la F D) (fun q => h.2 q p e s m args below meth c H locs la F D)

theorem gs_goto {off : Int} (hok : gp_okd M) (F : gp_F G M p s m args meth c) (D : gp_D G M s V H locs la ls cs ss) {len : Nat} (hdg : decode M.2.1 pc = .ok (.goto off, len)) (h : gp_step l G d M K (gp_Go l G d M K) (.goto off) len pc ls st V cs ss) : gp_T l G d M K pc st cs ss p e s m args below meth c H locs la := by
  obtain ⟨hx, hb, hml, hr, hlk, hown, hnm, hts, hK, hN, hbs⟩ := id F
  obtain ⟨hcs, hsz, hP, hS, hl, hc1, hs1⟩ := id D
  have hon := hok.2.2.2.2.2.1
  obtain ⟨e0, h2⟩ := gp_ln_e h
  clear h
  subst e0
  obtain ⟨t, e1, h⟩ := gp_j_e h2
  exact lv_goto hx hb hdg e1 (h p e s m args below meth c H locs la F D)

theorem gs_tableswitch {df lo hi : Int} {offs : Array Int} (hok : gp_okd M) (F : gp_F G M p s m args meth c) (D : gp_D G M s V H locs la ls cs ss) {len : Nat} (hdg : decode M.2.1 pc = .ok (.tableswitch df lo hi offs, len)) (h : gp_step l G d M K (gp_Go l G d M K) (.tableswitch df lo hi offs) len pc ls st V cs ss) : gp_T l G d M K pc st cs ss p e s m args below meth c H locs la := by
  obtain ⟨hx, hb, hml, hr, hlk, hown, hnm, hts, hK, hN, hbs⟩ := id F
  obtain ⟨hcs, hsz, hP, hS, hl, hc1, hs1⟩ := id D
  have hon := hok.2.2.2.2.2.1
  obtain ⟨x, r, rfl, h1, h2, h3⟩ := gp_p1_e h
  by_cases hq : x.toInt < lo ∨ hi < x.toInt
  · obtain ⟨t, e1, h⟩ := gp_j_e (h1 hq)
    exact lv_tableOut hx hb hdg hq e1 (h p e s m args below meth c H locs la F D)
  · have q1 : ¬ x.toInt < lo := fun z => hq (Or.inl z)
    have q2 : ¬ hi < x.toInt := fun z => hq (Or.inr z)
    have q3 : (x.toInt - lo).toNat < offs.toList.length := by omega
    obtain ⟨off, ho⟩ : ∃ off, offs.toList[(x.toInt - lo).toNat]? = some off := ⟨_, List.getElem?_eq_getElem q3⟩
    obtain ⟨t, e1, h⟩ := gp_j_e (gp_sw_e h3 ho (by omega))
    exact lv_tableIn hx hb hdg q1 q2 (by rw [← Array.getElem?_toList]; exact ho) e1 (h p e s m args below meth c H locs la F D)

theorem gs_getstatic {idx : Nat} (hok : gp_okd M) (F : gp_F G M p s m args meth c) (D : gp_D G M s V H locs la ls cs ss) {len : Nat} (hdg : decode M.2.1 pc = .ok (.getstatic idx, len)) (h : gp_step l G d M K (gp_Go l G d M K) (.getstatic idx) len pc ls st V cs ss) : gp_T l G d M K pc st cs ss p e s m args below meth c H locs la := by
  obtain ⟨hx, hb, hml, hr, hlk, hown, hnm, hts, hK, hN, hbs⟩ := id F
  obtain ⟨hcs, hsz, hP, hS, hl, hc1, hs1⟩ := id D
  have hon := hok.2.2.2.2.2.1
  obtain ⟨e0, h2⟩ := gp_ln_e h
  clear h
  subst e0
  obtain ⟨q, h0, h⟩ := gp_row_e h2
  rcases gp_zA _ _ hon _ (gp_lk_mem h0) with ⟨e1, f⟩ | ⟨e1, f⟩
  · have e1 : q = 0 := e1
    subst e1
    exact va_gets hx hb hN.2.2.2.2.2.1 hS hown (hts _ f) (fun _ h9 => h9) hdg (h p e s m args below meth c H locs la F D)
  · have e1 : q = 1 := e1
    subst e1
    rcases hN.2.2.2.2.2.2 with hz | hz
    · exact va_gets hx hb hz hS hown (hts _ f) (fun _ h9 => h9) hdg (h.1 p e s m args below meth c H locs la F D)
    · exact va_gets hx hb hz hS hown (hts _ f) (fun _ h9 => h9) hdg (h.2 p e s m args below meth c H locs la F D)

theorem gs_post {r : Option Value} (hcs : cs = gp_mc M) (D : gp_D G M s V H locs la ls cs ss) (hk : K r V) : ∀ t : State, t.heap = H → s.WarmedH t.vm → gp_Post G (gp_mc M) K args s (.returned (r.map (gp_mv G))) t := by
  intro t ht _
  obtain ⟨h1, h2, h3, h4, h5⟩ := D
  exact ⟨⟨r, V, rfl, hk, by rw [ht]; exact h2, by rw [ht]; exact h3⟩, by rw [ht, ← hcs]; omega, h4.F ht⟩

theorem gs_ireturn (hok : gp_okd M) (F : gp_F G M p s m args meth c) (D : gp_D G M s V H locs la ls cs ss) {len : Nat} (hdg : decode M.2.1 pc = .ok (.ireturn, len)) (h : gp_step l G d M K (gp_Go l G d M K) (.ireturn) len pc ls st V cs ss) : gp_T l G d M K pc st cs ss p e s m args below meth c H locs la := by
  obtain ⟨hx, hb, hml, hr, hlk, hown, hnm, hts, hK, hN, hbs⟩ := id F
  obtain ⟨hcs, hsz, hP, hS, hl, hc1, hs1⟩ := id D
  have hon := hok.2.2.2.2.2.1
  obtain ⟨e0, h2⟩ := gp_ln_e h
  clear h
  subst e0
  obtain ⟨h3, h4⟩ := gp_ln_e h2
  split at h4
  · rename_i x
    have hp : ∀ hk : K (some (.int x)) V, gp_T l G d M K pc [.int x] cs ss p e s m args below meth c H locs la → True := fun _ _ => trivial
    refine W.widen (k := gp_mc M) (n := gp_ms M) hc1 hs1 ?_
    split at h4
    · rename_i e1
      exact W.iret hx hb (by rw [hr]; exact e1) (gs_post (r := some (.int x)) h3 D h4) hS.2.2 hdg
    · rename_i e1
      obtain ⟨h5, h⟩ := h4
      refine W.zret (ty := .boolean) hx hb (by rw [hr]; exact e1) (by rcases h5 with rfl | rfl <;> rfl) (gs_post (r := some (.int x)) h3 D h) hS.2.2 hdg
    · rename_i e1
      obtain ⟨h5, h⟩ := h4
      exact W.zret (ty := .byte) hx hb (by rw [hr]; exact e1) h5 (gs_post (r := some (.int x)) h3 D h) hS.2.2 hdg
    · rename_i e1
      obtain ⟨h5, h⟩ := h4
      exact W.zret (ty := .char) hx hb (by rw [hr]; exact e1) h5 (gs_post (r := some (.int x)) h3 D h) hS.2.2 hdg
    · exact h4.elim
  · exact h4.elim

theorem gs_return (hok : gp_okd M) (F : gp_F G M p s m args meth c) (D : gp_D G M s V H locs la ls cs ss) {len : Nat} (hdg : decode M.2.1 pc = .ok (.return_, len)) (h : gp_step l G d M K (gp_Go l G d M K) (.return_) len pc ls st V cs ss) : gp_T l G d M K pc st cs ss p e s m args below meth c H locs la := by
  obtain ⟨hx, hb, hml, hr, hlk, hown, hnm, hts, hK, hN, hbs⟩ := id F
  obtain ⟨hcs, hsz, hP, hS, hl, hc1, hs1⟩ := id D
  have hon := hok.2.2.2.2.2.1
  obtain ⟨e0, h2⟩ := gp_ln_e h
  clear h
  subst e0
  obtain ⟨h3, h4⟩ := gp_ln_e h2
  split at h4
  · rename_i e1
    refine W.widen (k := gp_mc M) (n := gp_ms M) hc1 hs1 ?_
    exact W.vret hx hb (by rw [hr]; exact e1) (gs_post (r := none) h3 D h4) hS.2.2 hdg
  · exact h4.elim

end GO3
/-- one step: what the step asks gives the walk from here -/
theorem gp_go {l : Launch} {G : gp_G} {d : Nat} {M : gp_M} {K : Option Value → gp_H → Prop} {pc : Nat} {ls : List (Option Value)} {st : List Value} {V : gp_H} {cs ss : Nat} (hok : gp_okd M) {i : Instr} {len : Nat} (h0 : gp_lk (gp_cd M) pc = some (i, len)) (h : gp_step l G d M K (gp_Go l G d M K) i len pc ls st V cs ss) : gp_Go l G d M K pc ls st V cs ss := by
  intro p e s m args below meth c H locs la F D
  have hdg := hok.at h0
  cases i with
  | iload_n => exact gs_iload_n hok F D hdg h
  | iload => exact gs_iload hok F D hdg h
  | lload_n => exact gs_lload_n hok F D hdg h
  | lload => exact gs_lload hok F D hdg h
  | aload_n => exact gs_aload_n hok F D hdg h
  | aload => exact gs_aload hok F D hdg h
  | istore_n => exact gs_istore_n hok F D hdg h
  | istore => exact gs_istore hok F D hdg h
  | lstore_n => exact gs_lstore_n hok F D hdg h
  | lstore => exact gs_lstore hok F D hdg h
  | astore_n => exact gs_astore_n hok F D hdg h
  | astore => exact gs_astore hok F D hdg h
  | iinc => exact gs_iinc hok F D hdg h
  | iconst => exact gs_iconst hok F D hdg h
  | bipush => exact gs_bipush hok F D hdg h
  | sipush => exact gs_sipush hok F D hdg h
  | lconst => exact gs_lconst hok F D hdg h
  | ldc => exact gs_ldc hok F D hdg h
  | ldc_w => exact gs_ldc_w hok F D hdg h
  | ldc2_w => exact gs_ldc2_w hok F D hdg h
  | iadd => exact gs_iadd hok F D hdg h
  | isub => exact gs_isub hok F D hdg h
  | imul => exact gs_imul hok F D hdg h
  | iand => exact gs_iand hok F D hdg h
  | ior => exact gs_ior hok F D hdg h
  | ixor => exact gs_ixor hok F D hdg h
  | ishl => exact gs_ishl hok F D hdg h
  | ishr => exact gs_ishr hok F D hdg h
  | idiv => exact gs_idiv hok F D hdg h
  | irem => exact gs_irem hok F D hdg h
  | iushr => exact gs_iushr hok F D hdg h
  | ineg => exact gs_ineg hok F D hdg h
  | i2l => exact gs_i2l hok F D hdg h
  | i2b => exact gs_i2b hok F D hdg h
  | i2c => exact gs_i2c hok F D hdg h
  | l2i => exact gs_l2i hok F D hdg h
  | ladd => exact gs_ladd hok F D hdg h
  | lmul => exact gs_lmul hok F D hdg h
  | lor => exact gs_lor hok F D hdg h
  | ldiv => exact gs_ldiv hok F D hdg h
  | lcmp => exact gs_lcmp hok F D hdg h
  | lshl => exact gs_lshl hok F D hdg h
  | lushr => exact gs_lushr hok F D hdg h
  | dup => exact gs_dup hok F D hdg h
  | pop => exact gs_pop hok F D hdg h
  | dup2 => exact gs_dup2 hok F D hdg h
  | ifCond => exact gs_ifCond hok F D hdg h
  | if_icmp => exact gs_if_icmp hok F D hdg h
  | goto => exact gs_goto hok F D hdg h
  | tableswitch => exact gs_tableswitch hok F D hdg h
  | getstatic => exact gs_getstatic hok F D hdg h
  | ireturn => exact gs_ireturn hok F D hdg h
  | getfield => exact gs_getfield hok F D hdg h
  | putfield => exact gs_putfield hok F D hdg h
  | iaload => exact gs_iaload hok F D hdg h
  | iastore => exact gs_iastore hok F D hdg h
  | baload => exact gs_baload hok F D hdg h
  | bastore => exact gs_bastore hok F D hdg h
  | laload => exact gs_laload hok F D hdg h
  | lastore => exact gs_lastore hok F D hdg h
  | aaload => exact gs_aaload hok F D hdg h
  | aastore => exact gs_aastore hok F D hdg h
  | arraylength => exact gs_arraylength hok F D hdg h
  | new => exact gs_new hok F D hdg h
  | newarray => exact gs_newarray hok F D hdg h
  | anewarray => exact gs_anewarray hok F D hdg h
  | return_ => exact gs_return hok F D hdg h
  | invokestatic => exact gs_static hok F D hdg h
  | invokevirtual => exact gs_virtual hok F D hdg h
  | invokespecial => exact gs_special hok F D hdg h
  | _ => exact h.elim

/-- the locals with which a method begins -/
def gp_en : Nat → List Value → List (Option Value)
  | n, [] => List.replicate n none
  | n, .long x :: t => some (.long x) :: none :: gp_en (n - 2) t
  | n, .double x :: t => some (.double x) :: none :: gp_en (n - 2) t
  | n, v :: t => some v :: gp_en (n - 1) t
theorem gp_gl_rep : ∀ (n i : Nat), gp_gl (List.replicate n none) i = none
  | 0, i => by simp [gp_gl]
  | n + 1, 0 => by simp [List.replicate_succ, gp_gl]
  | n + 1, i + 1 => by simp only [List.replicate_succ, gp_gl]; exact gp_gl_rep n i
theorem gp_en_e (G : gp_G) : ∀ (as : List Value) (n b i : Nat) (v : Value), gp_gl (gp_en n as) i = some v → (b + i, gp_mv G v) ∈ lv_args b (as.map (gp_mv G)) := by
  intro as
  induction as with
  | nil => intro n b i v h; rw [gp_en, gp_gl_rep] at h; cases h
  | cons a t ih =>
    intro n b i v h
    by_cases h2 : a.category = 2
    · have e1 : gp_en n (a :: t) = some a :: none :: gp_en (n - 2) t := by cases a <;> first | rfl | simp [Value.category] at h2
      rw [e1] at h
      have e2 : lv_args b ((a :: t).map (gp_mv G)) = (b, gp_mv G a) :: lv_args (b + 2) (t.map (gp_mv G)) := by
        simp only [List.map_cons, lv_args, gp_mv_cat, h2, if_true]
      rw [e2]
      match i, h with
      | 0, h =>
        simp only [gp_gl, Option.some.injEq] at h
        subst h
        exact List.mem_cons_self
      | 1, h => simp [gp_gl] at h
      | i + 2, h =>
        have := ih (n - 2) (b + 2) i v h
        rw [show b + 2 + i = b + (i + 2) by omega] at this
        exact List.mem_cons_of_mem _ this
    · have e1 : gp_en n (a :: t) = some a :: gp_en (n - 1) t := by cases a <;> first | rfl | simp [Value.category] at h2
      rw [e1] at h
      have e2 : lv_args b ((a :: t).map (gp_mv G)) = (b, gp_mv G a) :: lv_args (b + 1) (t.map (gp_mv G)) := by
        simp only [List.map_cons, lv_args, gp_mv_cat, h2, if_false]
      rw [e2]
      match i, h with
      | 0, h =>
        simp only [gp_gl, Option.some.injEq] at h
        subst h
        exact List.mem_cons_self
      | i + 1, h =>
        have := ih (n - 1) (b + 1) i v h
        rw [show b + 1 + i = b + (i + 1) by omega] at this
        exact List.mem_cons_of_mem _ this
theorem gp_en_len : ∀ (as : List Value) (n : Nat), gp_sz as ≤ n → (gp_en n as).length = n := by
  intro as
  induction as with
  | nil => intro n _; simp [gp_en]
  | cons a t ih =>
    intro n h
    by_cases h2 : a.category = 2
    · have e1 : gp_en n (a :: t) = some a :: none :: gp_en (n - 2) t := by cases a <;> first | rfl | simp [Value.category] at h2
      have e3 : gp_sz (a :: t) = gp_sz t + 2 := by cases a <;> first | rfl | simp [Value.category] at h2
      rw [e1]
      simp only [List.length_cons]
      rw [ih (n - 2) (by omega)]
      omega
    · have e1 : gp_en n (a :: t) = some a :: gp_en (n - 1) t := by cases a <;> first | rfl | simp [Value.category] at h2
      have e3 : gp_sz (a :: t) = gp_sz t + 1 := by cases a <;> first | rfl | simp [Value.category] at h2
      rw [e1]
      simp only [List.length_cons]
      rw [ih (n - 1) (by omega)]
      omega
theorem gp_sl_len (G : gp_G) : ∀ as : List Value, (lg_sl (as.map (gp_mv G))).length = gp_sz as
  | [] => rfl
  | a :: t => by
    have ih := gp_sl_len G t
    simp only [lg_sl] at ih
    by_cases h2 : a.category = 2
    · have e3 : gp_sz (a :: t) = gp_sz t + 2 := by cases a <;> first | rfl | simp [Value.category] at h2
      simp only [lg_sl, List.map_cons, List.flatMap_cons, gp_mv_cat, h2, if_true, List.length_append, ih, e3, List.length_cons, List.length_nil]
      omega
    · have e3 : gp_sz (a :: t) = gp_sz t + 1 := by cases a <;> first | rfl | simp [Value.category] at h2
      simp only [lg_sl, List.map_cons, List.flatMap_cons, gp_mv_cat, h2, if_false, List.length_append, ih, e3, List.length_cons, List.length_nil]
      omega
/-- a method is what its walk from the entry is -/
theorem gp_enter {l : Launch} {G : gp_G} {d : Nat} {M : gp_M} {K : Option Value → gp_H → Prop} {as : List Value} {V : gp_H} (hok : gp_okd M) (hz : Nat.ble (gp_sz as) M.2.2.1 = true) (h : gp_Go l G d M K 0 (gp_en M.2.2.1 as) [] V 0 0) : gp_Cal l G d M as V K := by
  have hz : gp_sz as ≤ M.2.2.1 := Nat.le_of_ble_eq_true hz
  refine Met.ofW (cc := M.2.1) (maxL := M.2.2.1) (ret := M.2.2.2.1) hok.1 rfl ?_
  intro p e s m args below meth c s₁ B hml hv
  obtain ⟨rfl, hsz, hP, hK, hN⟩ := hv
  have hts := atoms_spec (ws := gp_wM M) B.pre
  have hent := lv_entry (as.map (gp_mv G)) (n := M.2.2.1) (by rw [gp_sl_len]; exact hz)
  rw [lg_entry_eq]
  refine h p e s m _ below meth c s.heap [] _ ⟨B.exec, B.bytes, hml, B.returns, B.notSynchronized, findClass_of_methodNamed B.named, (name_of_methodNamed B.named B.method).1, fun w hw => hts w (List.mem_cons_of_mem _ hw), hK, hN, by rw [hsz]; omega⟩ ⟨by rw [hsz]; rfl, hsz, hP, va_S.rf, ⟨hent.1, hent.2.1, gp_en_len as _ hz, fun i v hv => ?_⟩, Nat.zero_le _, Nat.zero_le _⟩
  have := gp_en_e G as M.2.2.1 0 i v hv
  rw [Nat.zero_add] at this
  exact hent.2.2 _ this
end
section
set_option maxRecDepth 100000 in
theorem od_Br_init : gp_okd m_Br_init := ⟨by decide +kernel, by decide +kernel, ow_Br_init⟩
set_option maxRecDepth 100000 in
theorem od_Br_append : gp_okd m_Br_append := ⟨by decide +kernel, by decide +kernel, ow_Br_append⟩
set_option maxRecDepth 100000 in
theorem od_Br_foldsBy : gp_okd m_Br_foldsBy := ⟨by decide +kernel, by decide +kernel, ow_Br_foldsBy⟩
set_option maxRecDepth 100000 in
theorem od_Br_edges : gp_okd m_Br_edges := ⟨by decide +kernel, by decide +kernel, ow_Br_edges⟩
set_option maxRecDepth 100000 in
theorem od_Br_placeOf : gp_okd m_Br_placeOf := ⟨by decide +kernel, by decide +kernel, ow_Br_placeOf⟩
set_option maxRecDepth 100000 in
theorem od_Br_agreements : gp_okd m_Br_agreements := ⟨by decide +kernel, by decide +kernel, ow_Br_agreements⟩
set_option maxRecDepth 100000 in
theorem od_Br_isHalf : gp_okd m_Br_isHalf := ⟨by decide +kernel, by decide +kernel, ow_Br_isHalf⟩
set_option maxRecDepth 100000 in
theorem od_Br_heightFor : gp_okd m_Br_heightFor := ⟨by decide +kernel, by decide +kernel, ow_Br_heightFor⟩
set_option maxRecDepth 100000 in
theorem od_Ch_init : gp_okd m_Ch_init := ⟨by decide +kernel, by decide +kernel, ow_Ch_init⟩
set_option maxRecDepth 100000 in
theorem od_Ch_findBest : gp_okd m_Ch_findBest := ⟨by decide +kernel, by decide +kernel, ow_Ch_findBest⟩
set_option maxRecDepth 100000 in
theorem od_Ch_ableMarks : gp_okd m_Ch_ableMarks := ⟨by decide +kernel, by decide +kernel, ow_Ch_ableMarks⟩
set_option maxRecDepth 100000 in
theorem od_Ch_grow : gp_okd m_Ch_grow := ⟨by decide +kernel, by decide +kernel, ow_Ch_grow⟩
set_option maxRecDepth 100000 in
theorem od_Ch_gains : gp_okd m_Ch_gains := ⟨by decide +kernel, by decide +kernel, ow_Ch_gains⟩
set_option maxRecDepth 100000 in
theorem od_Ch_judge : gp_okd m_Ch_judge := ⟨by decide +kernel, by decide +kernel, ow_Ch_judge⟩
set_option maxRecDepth 100000 in
theorem od_Ch_scoreOf : gp_okd m_Ch_scoreOf := ⟨by decide +kernel, by decide +kernel, ow_Ch_scoreOf⟩
set_option maxRecDepth 100000 in
theorem od_Mk_init : gp_okd m_Mk_init := ⟨by decide +kernel, by decide +kernel, ow_Mk_init⟩
set_option maxRecDepth 100000 in
theorem od_Mk_takenFor : gp_okd m_Mk_takenFor := ⟨by decide +kernel, by decide +kernel, ow_Mk_takenFor⟩
set_option maxRecDepth 100000 in
theorem od_Mi_init : gp_okd m_Mi_init := ⟨by decide +kernel, by decide +kernel, ow_Mi_init⟩
set_option maxRecDepth 100000 in
theorem od_Mi_clear : gp_okd m_Mi_clear := ⟨by decide +kernel, by decide +kernel, ow_Mi_clear⟩
set_option maxRecDepth 100000 in
theorem od_Mi_priceBy : gp_okd m_Mi_priceBy := ⟨by decide +kernel, by decide +kernel, ow_Mi_priceBy⟩
set_option maxRecDepth 100000 in
theorem od_Mi_rankBy : gp_okd m_Mi_rankBy := ⟨by decide +kernel, by decide +kernel, ow_Mi_rankBy⟩
set_option maxRecDepth 100000 in
theorem od_Pa_init : gp_okd m_Pa_init := ⟨by decide +kernel, by decide +kernel, ow_Pa_init⟩
set_option maxRecDepth 100000 in
theorem od_Pa_addBytes : gp_okd m_Pa_addBytes := ⟨by decide +kernel, by decide +kernel, ow_Pa_addBytes⟩
set_option maxRecDepth 100000 in
theorem od_Pa_forget : gp_okd m_Pa_forget := ⟨by decide +kernel, by decide +kernel, ow_Pa_forget⟩
set_option maxRecDepth 100000 in
theorem od_Pa_scan : gp_okd m_Pa_scan := ⟨by decide +kernel, by decide +kernel, ow_Pa_scan⟩
set_option maxRecDepth 100000 in
theorem od_Pa_scanRun : gp_okd m_Pa_scanRun := ⟨by decide +kernel, by decide +kernel, ow_Pa_scanRun⟩
set_option maxRecDepth 100000 in
theorem od_Pa_addToken : gp_okd m_Pa_addToken := ⟨by decide +kernel, by decide +kernel, ow_Pa_addToken⟩
set_option maxRecDepth 100000 in
theorem od_Pa_runEnd : gp_okd m_Pa_runEnd := ⟨by decide +kernel, by decide +kernel, ow_Pa_runEnd⟩
set_option maxRecDepth 100000 in
theorem od_Pa_isLetter : gp_okd m_Pa_isLetter := ⟨by decide +kernel, by decide +kernel, ow_Pa_isLetter⟩
set_option maxRecDepth 100000 in
theorem od_Pa_isDigit : gp_okd m_Pa_isDigit := ⟨by decide +kernel, by decide +kernel, ow_Pa_isDigit⟩
set_option maxRecDepth 100000 in
theorem od_Pa_numberOf : gp_okd m_Pa_numberOf := ⟨by decide +kernel, by decide +kernel, ow_Pa_numberOf⟩
set_option maxRecDepth 100000 in
theorem od_Pa_keyword : gp_okd m_Pa_keyword := ⟨by decide +kernel, by decide +kernel, ow_Pa_keyword⟩
set_option maxRecDepth 100000 in
theorem od_Pa_indexIn : gp_okd m_Pa_indexIn := ⟨by decide +kernel, by decide +kernel, ow_Pa_indexIn⟩
set_option maxRecDepth 100000 in
theorem od_Pa_standsAt : gp_okd m_Pa_standsAt := ⟨by decide +kernel, by decide +kernel, ow_Pa_standsAt⟩
set_option maxRecDepth 100000 in
theorem od_Pa_readsText : gp_okd m_Pa_readsText := ⟨by decide +kernel, by decide +kernel, ow_Pa_readsText⟩
set_option maxRecDepth 100000 in
theorem od_Pa_readLine : gp_okd m_Pa_readLine := ⟨by decide +kernel, by decide +kernel, ow_Pa_readLine⟩
set_option maxRecDepth 100000 in
theorem od_Pa_readNumber : gp_okd m_Pa_readNumber := ⟨by decide +kernel, by decide +kernel, ow_Pa_readNumber⟩
set_option maxRecDepth 100000 in
theorem od_Pa_condition : gp_okd m_Pa_condition := ⟨by decide +kernel, by decide +kernel, ow_Pa_condition⟩
set_option maxRecDepth 100000 in
theorem od_Pa_check : gp_okd m_Pa_check := ⟨by decide +kernel, by decide +kernel, ow_Pa_check⟩
set_option maxRecDepth 100000 in
theorem od_Pa_expectComparison : gp_okd m_Pa_expectComparison := ⟨by decide +kernel, by decide +kernel, ow_Pa_expectComparison⟩
set_option maxRecDepth 100000 in
theorem od_Pa_expression : gp_okd m_Pa_expression := ⟨by decide +kernel, by decide +kernel, ow_Pa_expression⟩
set_option maxRecDepth 100000 in
theorem od_Pa_unit : gp_okd m_Pa_unit := ⟨by decide +kernel, by decide +kernel, ow_Pa_unit⟩
set_option maxRecDepth 100000 in
theorem od_Pa_part : gp_okd m_Pa_part := ⟨by decide +kernel, by decide +kernel, ow_Pa_part⟩
set_option maxRecDepth 100000 in
theorem od_Pa_expect : gp_okd m_Pa_expect := ⟨by decide +kernel, by decide +kernel, ow_Pa_expect⟩
set_option maxRecDepth 100000 in
theorem od_Pa_kind : gp_okd m_Pa_kind := ⟨by decide +kernel, by decide +kernel, ow_Pa_kind⟩
set_option maxRecDepth 100000 in
theorem od_Pa_fail : gp_okd m_Pa_fail := ⟨by decide +kernel, by decide +kernel, ow_Pa_fail⟩
set_option maxRecDepth 100000 in
theorem od_Pa_emit : gp_okd m_Pa_emit := ⟨by decide +kernel, by decide +kernel, ow_Pa_emit⟩
set_option maxRecDepth 100000 in
theorem od_Pl_init : gp_okd m_Pl_init := ⟨by decide +kernel, by decide +kernel, ow_Pl_init⟩
set_option maxRecDepth 100000 in
theorem od_Pl_has : gp_okd m_Pl_has := ⟨by decide +kernel, by decide +kernel, ow_Pl_has⟩
set_option maxRecDepth 100000 in
theorem od_Pl_all : gp_okd m_Pl_all := ⟨by decide +kernel, by decide +kernel, ow_Pl_all⟩
set_option maxRecDepth 100000 in
theorem od_Pl_leftOf : gp_okd m_Pl_leftOf := ⟨by decide +kernel, by decide +kernel, ow_Pl_leftOf⟩
set_option maxRecDepth 100000 in
theorem od_Pl_wearOf : gp_okd m_Pl_wearOf := ⟨by decide +kernel, by decide +kernel, ow_Pl_wearOf⟩
set_option maxRecDepth 100000 in
theorem od_Pl_chainOf : gp_okd m_Pl_chainOf := ⟨by decide +kernel, by decide +kernel, ow_Pl_chainOf⟩
set_option maxRecDepth 100000 in
theorem od_Pl_rootsOf : gp_okd m_Pl_rootsOf := ⟨by decide +kernel, by decide +kernel, ow_Pl_rootsOf⟩
set_option maxRecDepth 100000 in
theorem od_Pl_canSee : gp_okd m_Pl_canSee := ⟨by decide +kernel, by decide +kernel, ow_Pl_canSee⟩
set_option maxRecDepth 100000 in
theorem od_Pl_isAble : gp_okd m_Pl_isAble := ⟨by decide +kernel, by decide +kernel, ow_Pl_isAble⟩
set_option maxRecDepth 100000 in
theorem od_Pl_rights : gp_okd m_Pl_rights := ⟨by decide +kernel, by decide +kernel, ow_Pl_rights⟩
end
section
set_option maxRecDepth 100000 in
theorem od_Pl_thingsOf : gp_okd m_Pl_thingsOf := ⟨by decide +kernel, by decide +kernel, ow_Pl_thingsOf⟩
set_option maxRecDepth 100000 in
theorem od_Se_init : gp_okd m_Se_init := ⟨by decide +kernel, by decide +kernel, ow_Se_init⟩
set_option maxRecDepth 100000 in
theorem od_Se_setUp : gp_okd m_Se_setUp := ⟨by decide +kernel, by decide +kernel, ow_Se_setUp⟩
set_option maxRecDepth 100000 in
theorem od_Se_takingsOf : gp_okd m_Se_takingsOf := ⟨by decide +kernel, by decide +kernel, ow_Se_takingsOf⟩
set_option maxRecDepth 100000 in
theorem od_Se_priceAll : gp_okd m_Se_priceAll := ⟨by decide +kernel, by decide +kernel, ow_Se_priceAll⟩
set_option maxRecDepth 100000 in
theorem od_Se_setFloors : gp_okd m_Se_setFloors := ⟨by decide +kernel, by decide +kernel, ow_Se_setFloors⟩
set_option maxRecDepth 100000 in
theorem od_Se_countUpTo : gp_okd m_Se_countUpTo := ⟨by decide +kernel, by decide +kernel, ow_Se_countUpTo⟩
set_option maxRecDepth 100000 in
theorem od_Se_findCheapest : gp_okd m_Se_findCheapest := ⟨by decide +kernel, by decide +kernel, ow_Se_findCheapest⟩
set_option maxRecDepth 100000 in
theorem od_Se_walk : gp_okd m_Se_walk := ⟨by decide +kernel, by decide +kernel, ow_Se_walk⟩
set_option maxRecDepth 100000 in
theorem od_Se_arrive : gp_okd m_Se_arrive := ⟨by decide +kernel, by decide +kernel, ow_Se_arrive⟩
set_option maxRecDepth 100000 in
theorem od_Se_cheapestTaking : gp_okd m_Se_cheapestTaking := ⟨by decide +kernel, by decide +kernel, ow_Se_cheapestTaking⟩
set_option maxRecDepth 100000 in
theorem od_Se_cheapestPacked : gp_okd m_Se_cheapestPacked := ⟨by decide +kernel, by decide +kernel, ow_Se_cheapestPacked⟩
set_option maxRecDepth 100000 in
theorem od_Se_partingPlace : gp_okd m_Se_partingPlace := ⟨by decide +kernel, by decide +kernel, ow_Se_partingPlace⟩
set_option maxRecDepth 100000 in
theorem od_Se_fallsFrom : gp_okd m_Se_fallsFrom := ⟨by decide +kernel, by decide +kernel, ow_Se_fallsFrom⟩
set_option maxRecDepth 100000 in
theorem od_Sk_init : gp_okd m_Sk_init := ⟨by decide +kernel, by decide +kernel, ow_Sk_init⟩
set_option maxRecDepth 100000 in
theorem od_Sk_add : gp_okd m_Sk_add := ⟨by decide +kernel, by decide +kernel, ow_Sk_add⟩
set_option maxRecDepth 100000 in
theorem od_Sk_has : gp_okd m_Sk_has := ⟨by decide +kernel, by decide +kernel, ow_Sk_has⟩
set_option maxRecDepth 100000 in
theorem od_Sk_countYears : gp_okd m_Sk_countYears := ⟨by decide +kernel, by decide +kernel, ow_Sk_countYears⟩
set_option maxRecDepth 100000 in
theorem od_Sk_anyFound : gp_okd m_Sk_anyFound := ⟨by decide +kernel, by decide +kernel, ow_Sk_anyFound⟩
set_option maxRecDepth 100000 in
theorem od_Sk_fitsAll : gp_okd m_Sk_fitsAll := ⟨by decide +kernel, by decide +kernel, ow_Sk_fitsAll⟩
set_option maxRecDepth 100000 in
theorem od_Sk_fits : gp_okd m_Sk_fits := ⟨by decide +kernel, by decide +kernel, ow_Sk_fits⟩
set_option maxRecDepth 100000 in
theorem od_Sk_countPlaces : gp_okd m_Sk_countPlaces := ⟨by decide +kernel, by decide +kernel, ow_Sk_countPlaces⟩
set_option maxRecDepth 100000 in
theorem od_Sk_isPlace : gp_okd m_Sk_isPlace := ⟨by decide +kernel, by decide +kernel, ow_Sk_isPlace⟩
set_option maxRecDepth 100000 in
theorem od_Sk_isAbout : gp_okd m_Sk_isAbout := ⟨by decide +kernel, by decide +kernel, ow_Sk_isAbout⟩
set_option maxRecDepth 100000 in
theorem od_Su_init : gp_okd m_Su_init := ⟨by decide +kernel, by decide +kernel, ow_Su_init⟩
set_option maxRecDepth 100000 in
theorem od_Su_clear : gp_okd m_Su_clear := ⟨by decide +kernel, by decide +kernel, ow_Su_clear⟩
set_option maxRecDepth 100000 in
theorem od_Su_work : gp_okd m_Su_work := ⟨by decide +kernel, by decide +kernel, ow_Su_work⟩
set_option maxRecDepth 100000 in
theorem od_Su_step : gp_okd m_Su_step := ⟨by decide +kernel, by decide +kernel, ow_Su_step⟩
set_option maxRecDepth 100000 in
theorem od_Su_join : gp_okd m_Su_join := ⟨by decide +kernel, by decide +kernel, ow_Su_join⟩
set_option maxRecDepth 100000 in
theorem od_Tr_init : gp_okd m_Tr_init := ⟨by decide +kernel, by decide +kernel, ow_Tr_init⟩
set_option maxRecDepth 100000 in
theorem od_Tr_add : gp_okd m_Tr_add := ⟨by decide +kernel, by decide +kernel, ow_Tr_add⟩
set_option maxRecDepth 100000 in
theorem od_Tr_rightPlaces : gp_okd m_Tr_rightPlaces := ⟨by decide +kernel, by decide +kernel, ow_Tr_rightPlaces⟩
set_option maxRecDepth 100000 in
theorem od_Wi_init : gp_okd m_Wi_init := ⟨by decide +kernel, by decide +kernel, ow_Wi_init⟩
set_option maxRecDepth 100000 in
theorem od_Wi_order : gp_okd m_Wi_order := ⟨by decide +kernel, by decide +kernel, ow_Wi_order⟩
set_option maxRecDepth 100000 in
theorem od_Wi_rankOf : gp_okd m_Wi_rankOf := ⟨by decide +kernel, by decide +kernel, ow_Wi_rankOf⟩
set_option maxRecDepth 100000 in
theorem od_Wi_isPrime : gp_okd m_Wi_isPrime := ⟨by decide +kernel, by decide +kernel, ow_Wi_isPrime⟩
set_option maxRecDepth 100000 in
theorem od_Wi_insert : gp_okd m_Wi_insert := ⟨by decide +kernel, by decide +kernel, ow_Wi_insert⟩
set_option maxRecDepth 100000 in
theorem od_Gp_init : gp_okd m_Gp_init := ⟨by decide +kernel, by decide +kernel, ow_Gp_init⟩
set_option maxRecDepth 100000 in
theorem od_Gp_mark : gp_okd m_Gp_mark := ⟨by decide +kernel, by decide +kernel, ow_Gp_mark⟩
set_option maxRecDepth 100000 in
theorem od_Gp_tell : gp_okd m_Gp_tell := ⟨by decide +kernel, by decide +kernel, ow_Gp_tell⟩
set_option maxRecDepth 100000 in
theorem od_Gp_tellNeeds : gp_okd m_Gp_tellNeeds := ⟨by decide +kernel, by decide +kernel, ow_Gp_tellNeeds⟩
set_option maxRecDepth 100000 in
theorem od_Gp_tellKnows : gp_okd m_Gp_tellKnows := ⟨by decide +kernel, by decide +kernel, ow_Gp_tellKnows⟩
set_option maxRecDepth 100000 in
theorem od_Gp_tellFirst : gp_okd m_Gp_tellFirst := ⟨by decide +kernel, by decide +kernel, ow_Gp_tellFirst⟩
set_option maxRecDepth 100000 in
theorem od_Gp_tellSecond : gp_okd m_Gp_tellSecond := ⟨by decide +kernel, by decide +kernel, ow_Gp_tellSecond⟩
set_option maxRecDepth 100000 in
theorem od_Gp_canBeOther : gp_okd m_Gp_canBeOther := ⟨by decide +kernel, by decide +kernel, ow_Gp_canBeOther⟩
set_option maxRecDepth 100000 in
theorem od_Gp_hard : gp_okd m_Gp_hard := ⟨by decide +kernel, by decide +kernel, ow_Gp_hard⟩
set_option maxRecDepth 100000 in
theorem od_Gp_year : gp_okd m_Gp_year := ⟨by decide +kernel, by decide +kernel, ow_Gp_year⟩
set_option maxRecDepth 100000 in
theorem od_Gp_of : gp_okd m_Gp_of := ⟨by decide +kernel, by decide +kernel, ow_Gp_of⟩
set_option maxRecDepth 100000 in
theorem od_Gp_put : gp_okd m_Gp_put := ⟨by decide +kernel, by decide +kernel, ow_Gp_put⟩
set_option maxRecDepth 100000 in
theorem od_Gp_inMessage : gp_okd m_Gp_inMessage := ⟨by decide +kernel, by decide +kernel, ow_Gp_inMessage⟩
set_option maxRecDepth 100000 in
theorem od_Gp_feed : gp_okd m_Gp_feed := ⟨by decide +kernel, by decide +kernel, ow_Gp_feed⟩
set_option maxRecDepth 100000 in
theorem od_Gp_end : gp_okd m_Gp_end := ⟨by decide +kernel, by decide +kernel, ow_Gp_end⟩
set_option maxRecDepth 100000 in
theorem od_Gp_mind : gp_okd m_Gp_mind := ⟨by decide +kernel, by decide +kernel, ow_Gp_mind⟩
set_option maxRecDepth 100000 in
theorem od_Gp_fault : gp_okd m_Gp_fault := ⟨by decide +kernel, by decide +kernel, ow_Gp_fault⟩
end
section
set_option maxRecDepth 100000 in
theorem od_Gp_readings : gp_okd m_Gp_readings := ⟨by decide +kernel, by decide +kernel, ow_Gp_readings⟩
set_option maxRecDepth 100000 in
theorem od_Gp_cheapest : gp_okd m_Gp_cheapest := ⟨by decide +kernel, by decide +kernel, ow_Gp_cheapest⟩
set_option maxRecDepth 100000 in
theorem od_Gp_findCheapest : gp_okd m_Gp_findCheapest := ⟨by decide +kernel, by decide +kernel, ow_Gp_findCheapest⟩
set_option maxRecDepth 100000 in
theorem od_Gp_alone : gp_okd m_Gp_alone := ⟨by decide +kernel, by decide +kernel, ow_Gp_alone⟩
set_option maxRecDepth 100000 in
theorem od_Gp_bits : gp_okd m_Gp_bits := ⟨by decide +kernel, by decide +kernel, ow_Gp_bits⟩
set_option maxRecDepth 100000 in
theorem od_Gp_grid : gp_okd m_Gp_grid := ⟨by decide +kernel, by decide +kernel, ow_Gp_grid⟩
set_option maxRecDepth 100000 in
theorem od_Gp_widths : gp_okd m_Gp_widths := ⟨by decide +kernel, by decide +kernel, ow_Gp_widths⟩
set_option maxRecDepth 100000 in
theorem od_Gp_laid : gp_okd m_Gp_laid := ⟨by decide +kernel, by decide +kernel, ow_Gp_laid⟩
set_option maxRecDepth 100000 in
theorem od_Gp_beat : gp_okd m_Gp_beat := ⟨by decide +kernel, by decide +kernel, ow_Gp_beat⟩
set_option maxRecDepth 100000 in
theorem od_Gp_found : gp_okd m_Gp_found := ⟨by decide +kernel, by decide +kernel, ow_Gp_found⟩
set_option maxRecDepth 100000 in
theorem od_Gp_far : gp_okd m_Gp_far := ⟨by decide +kernel, by decide +kernel, ow_Gp_far⟩
set_option maxRecDepth 100000 in
theorem od_Gp_years : gp_okd m_Gp_years := ⟨by decide +kernel, by decide +kernel, ow_Gp_years⟩
set_option maxRecDepth 100000 in
theorem od_Gp_places : gp_okd m_Gp_places := ⟨by decide +kernel, by decide +kernel, ow_Gp_places⟩
set_option maxRecDepth 100000 in
theorem od_Gp_told : gp_okd m_Gp_told := ⟨by decide +kernel, by decide +kernel, ow_Gp_told⟩
set_option maxRecDepth 100000 in
theorem od_Gp_best : gp_okd m_Gp_best := ⟨by decide +kernel, by decide +kernel, ow_Gp_best⟩
set_option maxRecDepth 100000 in
theorem od_Gp_never : gp_okd m_Gp_never := ⟨by decide +kernel, by decide +kernel, ow_Gp_never⟩
set_option maxRecDepth 100000 in
theorem od_Gp_deeper : gp_okd m_Gp_deeper := ⟨by decide +kernel, by decide +kernel, ow_Gp_deeper⟩
set_option maxRecDepth 100000 in
theorem od_Gp_countTold : gp_okd m_Gp_countTold := ⟨by decide +kernel, by decide +kernel, ow_Gp_countTold⟩
set_option maxRecDepth 100000 in
theorem od_Gp_trial : gp_okd m_Gp_trial := ⟨by decide +kernel, by decide +kernel, ow_Gp_trial⟩
set_option maxRecDepth 100000 in
theorem od_Gp_othersAreThere : gp_okd m_Gp_othersAreThere := ⟨by decide +kernel, by decide +kernel, ow_Gp_othersAreThere⟩
set_option maxRecDepth 100000 in
theorem od_Gp_agrees : gp_okd m_Gp_agrees := ⟨by decide +kernel, by decide +kernel, ow_Gp_agrees⟩
set_option maxRecDepth 100000 in
theorem od_Gp_ours : gp_okd m_Gp_ours := ⟨by decide +kernel, by decide +kernel, ow_Gp_ours⟩
set_option maxRecDepth 100000 in
theorem od_Gp_marksAtPlaces : gp_okd m_Gp_marksAtPlaces := ⟨by decide +kernel, by decide +kernel, ow_Gp_marksAtPlaces⟩
set_option maxRecDepth 100000 in
theorem od_Gp_look : gp_okd m_Gp_look := ⟨by decide +kernel, by decide +kernel, ow_Gp_look⟩
set_option maxRecDepth 100000 in
theorem od_Gp_within : gp_okd m_Gp_within := ⟨by decide +kernel, by decide +kernel, ow_Gp_within⟩
set_option maxRecDepth 100000 in
theorem od_Gp_isMind : gp_okd m_Gp_isMind := ⟨by decide +kernel, by decide +kernel, ow_Gp_isMind⟩
set_option maxRecDepth 100000 in
theorem od_Gp_markAt : gp_okd m_Gp_markAt := ⟨by decide +kernel, by decide +kernel, ow_Gp_markAt⟩
set_option maxRecDepth 100000 in
theorem od_Gp_takingAt : gp_okd m_Gp_takingAt := ⟨by decide +kernel, by decide +kernel, ow_Gp_takingAt⟩
set_option maxRecDepth 100000 in
theorem od_Gp_placesTakenRight : gp_okd m_Gp_placesTakenRight := ⟨by decide +kernel, by decide +kernel, ow_Gp_placesTakenRight⟩
set_option maxRecDepth 100000 in
theorem od_Rf_init : gp_okd m_Rf_init := ⟨by decide +kernel, by decide +kernel, ow_Rf_init⟩
set_option maxRecDepth 100000 in
theorem od_Rf_isIn : gp_okd m_Rf_isIn := ⟨by decide +kernel, by decide +kernel, ow_Rf_isIn⟩
set_option maxRecDepth 100000 in
theorem od_Rf_count : gp_okd m_Rf_count := ⟨by decide +kernel, by decide +kernel, ow_Rf_count⟩
set_option maxRecDepth 100000 in
theorem od_Rf_isMark : gp_okd m_Rf_isMark := ⟨by decide +kernel, by decide +kernel, ow_Rf_isMark⟩
set_option maxRecDepth 100000 in
theorem od_Rf_mark : gp_okd m_Rf_mark := ⟨by decide +kernel, by decide +kernel, ow_Rf_mark⟩
set_option maxRecDepth 100000 in
theorem od_Rf_tell : gp_okd m_Rf_tell := ⟨by decide +kernel, by decide +kernel, ow_Rf_tell⟩
set_option maxRecDepth 100000 in
theorem od_Rf_hard : gp_okd m_Rf_hard := ⟨by decide +kernel, by decide +kernel, ow_Rf_hard⟩
set_option maxRecDepth 100000 in
theorem od_Rf_year : gp_okd m_Rf_year := ⟨by decide +kernel, by decide +kernel, ow_Rf_year⟩
set_option maxRecDepth 100000 in
theorem od_Rf_depth : gp_okd m_Rf_depth := ⟨by decide +kernel, by decide +kernel, ow_Rf_depth⟩
set_option maxRecDepth 100000 in
theorem od_Rf_left : gp_okd m_Rf_left := ⟨by decide +kernel, by decide +kernel, ow_Rf_left⟩
set_option maxRecDepth 100000 in
theorem od_Rf_isWorn : gp_okd m_Rf_isWorn := ⟨by decide +kernel, by decide +kernel, ow_Rf_isWorn⟩
set_option maxRecDepth 100000 in
theorem od_Rf_chain : gp_okd m_Rf_chain := ⟨by decide +kernel, by decide +kernel, ow_Rf_chain⟩
set_option maxRecDepth 100000 in
theorem od_Rf_of : gp_okd m_Rf_of := ⟨by decide +kernel, by decide +kernel, ow_Rf_of⟩
set_option maxRecDepth 100000 in
theorem od_Rf_put : gp_okd m_Rf_put := ⟨by decide +kernel, by decide +kernel, ow_Rf_put⟩
set_option maxRecDepth 100000 in
theorem od_Rf_feed : gp_okd m_Rf_feed := ⟨by decide +kernel, by decide +kernel, ow_Rf_feed⟩
set_option maxRecDepth 100000 in
theorem od_Rf_end : gp_okd m_Rf_end := ⟨by decide +kernel, by decide +kernel, ow_Rf_end⟩
set_option maxRecDepth 100000 in
theorem od_Rf_see : gp_okd m_Rf_see := ⟨by decide +kernel, by decide +kernel, ow_Rf_see⟩
set_option maxRecDepth 100000 in
theorem od_Rf_isLetter : gp_okd m_Rf_isLetter := ⟨by decide +kernel, by decide +kernel, ow_Rf_isLetter⟩
set_option maxRecDepth 100000 in
theorem od_Rf_isDigit : gp_okd m_Rf_isDigit := ⟨by decide +kernel, by decide +kernel, ow_Rf_isDigit⟩
set_option maxRecDepth 100000 in
theorem od_Rf_is : gp_okd m_Rf_is := ⟨by decide +kernel, by decide +kernel, ow_Rf_is⟩
set_option maxRecDepth 100000 in
theorem od_Rf_name : gp_okd m_Rf_name := ⟨by decide +kernel, by decide +kernel, ow_Rf_name⟩
set_option maxRecDepth 100000 in
theorem od_Rf_word : gp_okd m_Rf_word := ⟨by decide +kernel, by decide +kernel, ow_Rf_word⟩
set_option maxRecDepth 100000 in
theorem od_Rf_next0 : gp_okd m_Rf_next0 := ⟨by decide +kernel, by decide +kernel, ow_Rf_next0⟩
set_option maxRecDepth 100000 in
theorem od_Rf_bad : gp_okd m_Rf_bad := ⟨by decide +kernel, by decide +kernel, ow_Rf_bad⟩
set_option maxRecDepth 100000 in
theorem od_Rf_need : gp_okd m_Rf_need := ⟨by decide +kernel, by decide +kernel, ow_Rf_need⟩
set_option maxRecDepth 100000 in
theorem od_Rf_number : gp_okd m_Rf_number := ⟨by decide +kernel, by decide +kernel, ow_Rf_number⟩
end
section
set_option maxRecDepth 100000 in
theorem od_Rf_lay : gp_okd m_Rf_lay := ⟨by decide +kernel, by decide +kernel, ow_Rf_lay⟩
set_option maxRecDepth 100000 in
theorem od_Rf_opens : gp_okd m_Rf_opens := ⟨by decide +kernel, by decide +kernel, ow_Rf_opens⟩
set_option maxRecDepth 100000 in
theorem od_Rf_sumUp : gp_okd m_Rf_sumUp := ⟨by decide +kernel, by decide +kernel, ow_Rf_sumUp⟩
set_option maxRecDepth 100000 in
theorem od_Rf_product : gp_okd m_Rf_product := ⟨by decide +kernel, by decide +kernel, ow_Rf_product⟩
set_option maxRecDepth 100000 in
theorem od_Rf_unit : gp_okd m_Rf_unit := ⟨by decide +kernel, by decide +kernel, ow_Rf_unit⟩
set_option maxRecDepth 100000 in
theorem od_Rf_any : gp_okd m_Rf_any := ⟨by decide +kernel, by decide +kernel, ow_Rf_any⟩
set_option maxRecDepth 100000 in
theorem od_Rf_every : gp_okd m_Rf_every := ⟨by decide +kernel, by decide +kernel, ow_Rf_every⟩
set_option maxRecDepth 100000 in
theorem od_Rf_one : gp_okd m_Rf_one := ⟨by decide +kernel, by decide +kernel, ow_Rf_one⟩
set_option maxRecDepth 100000 in
theorem od_Rf_aPrice : gp_okd m_Rf_aPrice := ⟨by decide +kernel, by decide +kernel, ow_Rf_aPrice⟩
set_option maxRecDepth 100000 in
theorem od_Rf_aLine : gp_okd m_Rf_aLine := ⟨by decide +kernel, by decide +kernel, ow_Rf_aLine⟩
set_option maxRecDepth 100000 in
theorem od_Rf_takesMind : gp_okd m_Rf_takesMind := ⟨by decide +kernel, by decide +kernel, ow_Rf_takesMind⟩
set_option maxRecDepth 100000 in
theorem od_Rf_isMind : gp_okd m_Rf_isMind := ⟨by decide +kernel, by decide +kernel, ow_Rf_isMind⟩
set_option maxRecDepth 100000 in
theorem od_Rf_mind : gp_okd m_Rf_mind := ⟨by decide +kernel, by decide +kernel, ow_Rf_mind⟩
set_option maxRecDepth 100000 in
theorem od_Rf_fault : gp_okd m_Rf_fault := ⟨by decide +kernel, by decide +kernel, ow_Rf_fault⟩
set_option maxRecDepth 100000 in
theorem od_Rf_both : gp_okd m_Rf_both := ⟨by decide +kernel, by decide +kernel, ow_Rf_both⟩
set_option maxRecDepth 100000 in
theorem od_Rf_comesTo : gp_okd m_Rf_comesTo := ⟨by decide +kernel, by decide +kernel, ow_Rf_comesTo⟩
set_option maxRecDepth 100000 in
theorem od_Rf_priceNow : gp_okd m_Rf_priceNow := ⟨by decide +kernel, by decide +kernel, ow_Rf_priceNow⟩
set_option maxRecDepth 100000 in
theorem od_Rf_canSee : gp_okd m_Rf_canSee := ⟨by decide +kernel, by decide +kernel, ow_Rf_canSee⟩
set_option maxRecDepth 100000 in
theorem od_Rf_thing : gp_okd m_Rf_thing := ⟨by decide +kernel, by decide +kernel, ow_Rf_thing⟩
set_option maxRecDepth 100000 in
theorem od_Rf_laysPrices : gp_okd m_Rf_laysPrices := ⟨by decide +kernel, by decide +kernel, ow_Rf_laysPrices⟩
set_option maxRecDepth 100000 in
theorem od_Rf_canTake : gp_okd m_Rf_canTake := ⟨by decide +kernel, by decide +kernel, ow_Rf_canTake⟩
set_option maxRecDepth 100000 in
theorem od_Rf_isTwice : gp_okd m_Rf_isTwice := ⟨by decide +kernel, by decide +kernel, ow_Rf_isTwice⟩
set_option maxRecDepth 100000 in
theorem od_Rf_goesOn : gp_okd m_Rf_goesOn := ⟨by decide +kernel, by decide +kernel, ow_Rf_goesOn⟩
set_option maxRecDepth 100000 in
theorem od_Rf_readings : gp_okd m_Rf_readings := ⟨by decide +kernel, by decide +kernel, ow_Rf_readings⟩
set_option maxRecDepth 100000 in
theorem od_Rf_seeks : gp_okd m_Rf_seeks := ⟨by decide +kernel, by decide +kernel, ow_Rf_seeks⟩
set_option maxRecDepth 100000 in
theorem od_Rf_allNeeds : gp_okd m_Rf_allNeeds := ⟨by decide +kernel, by decide +kernel, ow_Rf_allNeeds⟩
set_option maxRecDepth 100000 in
theorem od_Rf_cheapest : gp_okd m_Rf_cheapest := ⟨by decide +kernel, by decide +kernel, ow_Rf_cheapest⟩
set_option maxRecDepth 100000 in
theorem od_Rf_isAlone : gp_okd m_Rf_isAlone := ⟨by decide +kernel, by decide +kernel, ow_Rf_isAlone⟩
set_option maxRecDepth 100000 in
theorem od_Rf_alone : gp_okd m_Rf_alone := ⟨by decide +kernel, by decide +kernel, ow_Rf_alone⟩
set_option maxRecDepth 100000 in
theorem od_Rf_bits : gp_okd m_Rf_bits := ⟨by decide +kernel, by decide +kernel, ow_Rf_bits⟩
set_option maxRecDepth 100000 in
theorem od_Rf_grid : gp_okd m_Rf_grid := ⟨by decide +kernel, by decide +kernel, ow_Rf_grid⟩
set_option maxRecDepth 100000 in
theorem od_Rf_isWidth : gp_okd m_Rf_isWidth := ⟨by decide +kernel, by decide +kernel, ow_Rf_isWidth⟩
set_option maxRecDepth 100000 in
theorem od_Rf_laidAt : gp_okd m_Rf_laidAt := ⟨by decide +kernel, by decide +kernel, ow_Rf_laidAt⟩
set_option maxRecDepth 100000 in
theorem od_Rf_isPrime : gp_okd m_Rf_isPrime := ⟨by decide +kernel, by decide +kernel, ow_Rf_isPrime⟩
set_option maxRecDepth 100000 in
theorem od_Rf_edges : gp_okd m_Rf_edges := ⟨by decide +kernel, by decide +kernel, ow_Rf_edges⟩
set_option maxRecDepth 100000 in
theorem od_Rf_triedAs : gp_okd m_Rf_triedAs := ⟨by decide +kernel, by decide +kernel, ow_Rf_triedAs⟩
end
section
set_option maxRecDepth 100000 in
theorem od_Rf_findsWidths : gp_okd m_Rf_findsWidths := ⟨by decide +kernel, by decide +kernel, ow_Rf_findsWidths⟩
set_option maxRecDepth 100000 in
theorem od_Rf_widths : gp_okd m_Rf_widths := ⟨by decide +kernel, by decide +kernel, ow_Rf_widths⟩
set_option maxRecDepth 100000 in
theorem od_Rf_laid : gp_okd m_Rf_laid := ⟨by decide +kernel, by decide +kernel, ow_Rf_laid⟩
set_option maxRecDepth 100000 in
theorem od_Rf_isBeat : gp_okd m_Rf_isBeat := ⟨by decide +kernel, by decide +kernel, ow_Rf_isBeat⟩
set_option maxRecDepth 100000 in
theorem od_Rf_beat : gp_okd m_Rf_beat := ⟨by decide +kernel, by decide +kernel, ow_Rf_beat⟩
set_option maxRecDepth 100000 in
theorem od_Rf_found : gp_okd m_Rf_found := ⟨by decide +kernel, by decide +kernel, ow_Rf_found⟩
set_option maxRecDepth 100000 in
theorem od_Rf_far : gp_okd m_Rf_far := ⟨by decide +kernel, by decide +kernel, ow_Rf_far⟩
set_option maxRecDepth 100000 in
theorem od_Rf_isThen : gp_okd m_Rf_isThen := ⟨by decide +kernel, by decide +kernel, ow_Rf_isThen⟩
set_option maxRecDepth 100000 in
theorem od_Rf_years : gp_okd m_Rf_years := ⟨by decide +kernel, by decide +kernel, ow_Rf_years⟩
set_option maxRecDepth 100000 in
theorem od_Rf_distance : gp_okd m_Rf_distance := ⟨by decide +kernel, by decide +kernel, ow_Rf_distance⟩
set_option maxRecDepth 100000 in
theorem od_Rf_places : gp_okd m_Rf_places := ⟨by decide +kernel, by decide +kernel, ow_Rf_places⟩
set_option maxRecDepth 100000 in
theorem od_Rf_toldBy : gp_okd m_Rf_toldBy := ⟨by decide +kernel, by decide +kernel, ow_Rf_toldBy⟩
set_option maxRecDepth 100000 in
theorem od_Rf_told : gp_okd m_Rf_told := ⟨by decide +kernel, by decide +kernel, ow_Rf_told⟩
set_option maxRecDepth 100000 in
theorem od_Rf_costOfSet : gp_okd m_Rf_costOfSet := ⟨by decide +kernel, by decide +kernel, ow_Rf_costOfSet⟩
set_option maxRecDepth 100000 in
theorem od_Rf_worth : gp_okd m_Rf_worth := ⟨by decide +kernel, by decide +kernel, ow_Rf_worth⟩
set_option maxRecDepth 100000 in
theorem od_Rf_best : gp_okd m_Rf_best := ⟨by decide +kernel, by decide +kernel, ow_Rf_best⟩
set_option maxRecDepth 100000 in
theorem od_Rf_allMarks : gp_okd m_Rf_allMarks := ⟨by decide +kernel, by decide +kernel, ow_Rf_allMarks⟩
set_option maxRecDepth 100000 in
theorem od_Rf_never : gp_okd m_Rf_never := ⟨by decide +kernel, by decide +kernel, ow_Rf_never⟩
set_option maxRecDepth 100000 in
theorem od_Rf_deeper : gp_okd m_Rf_deeper := ⟨by decide +kernel, by decide +kernel, ow_Rf_deeper⟩
set_option maxRecDepth 100000 in
theorem od_Rf_trial : gp_okd m_Rf_trial := ⟨by decide +kernel, by decide +kernel, ow_Rf_trial⟩
set_option maxRecDepth 100000 in
theorem od_Rf_cheapestNow : gp_okd m_Rf_cheapestNow := ⟨by decide +kernel, by decide +kernel, ow_Rf_cheapestNow⟩
set_option maxRecDepth 100000 in
theorem od_Rf_agrees : gp_okd m_Rf_agrees := ⟨by decide +kernel, by decide +kernel, ow_Rf_agrees⟩
set_option maxRecDepth 100000 in
theorem od_Rf_isOfThis : gp_okd m_Rf_isOfThis := ⟨by decide +kernel, by decide +kernel, ow_Rf_isOfThis⟩
set_option maxRecDepth 100000 in
theorem od_Rf_ours : gp_okd m_Rf_ours := ⟨by decide +kernel, by decide +kernel, ow_Rf_ours⟩
set_option maxRecDepth 100000 in
theorem od_Rf_look : gp_okd m_Rf_look := ⟨by decide +kernel, by decide +kernel, ow_Rf_look⟩
set_option maxRecDepth 100000 in
theorem od_Ji_bitCount : gp_okd m_Ji_bitCount := ⟨by decide +kernel, by decide +kernel, ow_Ji_bitCount⟩
set_option maxRecDepth 100000 in
theorem od_Js_length : gp_okd m_Js_length := ⟨by decide +kernel, by decide +kernel, ow_Js_length⟩
set_option maxRecDepth 100000 in
theorem od_Js_charAt : gp_okd m_Js_charAt := ⟨by decide +kernel, by decide +kernel, ow_Js_charAt⟩
set_option maxRecDepth 100000 in
theorem od_Js_indexOf : gp_okd m_Js_indexOf := ⟨by decide +kernel, by decide +kernel, ow_Js_indexOf⟩
set_option maxRecDepth 100000 in
theorem od_Js_indexOf_d33 : gp_okd m_Js_indexOf_d33 := ⟨by decide +kernel, by decide +kernel, ow_Js_indexOf_d33⟩
set_option maxRecDepth 100000 in
theorem od_Js_coder : gp_okd m_Js_coder := ⟨by decide +kernel, by decide +kernel, ow_Js_coder⟩
set_option maxRecDepth 100000 in
theorem od_Js_isLatin1 : gp_okd m_Js_isLatin1 := ⟨by decide +kernel, by decide +kernel, ow_Js_isLatin1⟩
set_option maxRecDepth 100000 in
theorem od_Js_checkIndex : gp_okd m_Js_checkIndex := ⟨by decide +kernel, by decide +kernel, ow_Js_checkIndex⟩
set_option maxRecDepth 100000 in
theorem od_Js_checkBoundsBeginEnd : gp_okd m_Js_checkBoundsBeginEnd := ⟨by decide +kernel, by decide +kernel, ow_Js_checkBoundsBeginEnd⟩
set_option maxRecDepth 100000 in
theorem od_Jl_charAt : gp_okd m_Jl_charAt := ⟨by decide +kernel, by decide +kernel, ow_Jl_charAt⟩
set_option maxRecDepth 100000 in
theorem od_Jl_canEncode : gp_okd m_Jl_canEncode := ⟨by decide +kernel, by decide +kernel, ow_Jl_canEncode⟩
set_option maxRecDepth 100000 in
theorem od_Jl_indexOf : gp_okd m_Jl_indexOf := ⟨by decide +kernel, by decide +kernel, ow_Jl_indexOf⟩
set_option maxRecDepth 100000 in
theorem od_Jl_indexOfChar : gp_okd m_Jl_indexOfChar := ⟨by decide +kernel, by decide +kernel, ow_Jl_indexOfChar⟩
set_option maxRecDepth 100000 in
theorem od_Jp_checkIndex : gp_okd m_Jp_checkIndex := ⟨by decide +kernel, by decide +kernel, ow_Jp_checkIndex⟩
set_option maxRecDepth 100000 in
theorem od_Jp_checkFromToIndex : gp_okd m_Jp_checkFromToIndex := ⟨by decide +kernel, by decide +kernel, ow_Jp_checkFromToIndex⟩
end
section
def gp_ct : List Nat → Nat → Bool
  | [], _ => true
  | a :: t, n => match Nat.beq a n with
    | true => false
    | false => gp_ct t n
/-- a step that stops at the places told -/
theorem gp_gc (ct : List Nat) {l : Launch} {G : gp_G} {d : Nat} {M : gp_M} {K : Option Value → gp_H → Prop} {pc : Nat} {ls : List (Option Value)} {st : List Value} {V : gp_H} {cs ss : Nat} (hok : gp_okd M) {i : Instr} {len : Nat} (_ : gp_ct ct pc = true) (h0 : gp_lk (gp_cd M) pc = some (i, len)) (h : gp_step l G d M K (gp_Go l G d M K) i len pc ls st V cs ss) : gp_Go l G d M K pc ls st V cs ss := gp_go hok h0 h
def gp_it {X : Type} (f : Nat → X → X) : Nat → Nat → X → X
  | _, 0, x => x
  | i, k + 1, x => gp_it f (i + 1) k (f i x)
theorem gp_iter {X : Type} {P : Nat → X → Prop} (f : Nat → X → X) (N : Nat) (step : ∀ i x, i < N → P (i + 1) (f i x) → P i x) : ∀ (k i : Nat) (x : X), i + k = N → P N (gp_it f i k x) → P i x
  | 0, i, x, h, hp => by
    have : i = N := by omega
    subst this
    exact hp
  | k + 1, i, x, h, hp => step i x (by omega) (gp_iter f N step k (i + 1) (f i x) (by omega) hp)
theorem gp_inc {x : Int32} {i : Nat} (h : x = nI i) : x + Int32.ofInt 1 = nI (i + 1) := by
  rw [h, nI_succ]
  rfl
def gf_count (s : Int32) : Int32 := gp_it (fun i n => n + ((s >>> (nI i &&& 31)) &&& 1)) 0 16 0
set_option maxRecDepth 100000 in
theorem sp_Rf_count {l : Launch} {G : gp_G} {d : Nat} {V : gp_H} {s : Int32} {K : Option Value → gp_H → Prop} (h : K (some (.int (gf_count s))) V) : gp_Cal l G d m_Rf_count [.int s] V K := by
  refine gp_enter od_Rf_count rfl ?_
  repeat refine gp_gc [4] od_Rf_count rfl rfl ?_
  refine gp_iter (P := fun i n => ∀ x, x = nI i → gp_Go l G d m_Rf_count K 4 [some (.int s), some (.int n), some (.int x)] [] V 0 0) (fun i n => n + ((s >>> (nI i &&& 31)) &&& 1)) 16 ?_ 16 0 0 rfl ?_ 0 rfl
  · intro i n hi hp x ex
    refine gp_go od_Rf_count rfl ?_
    repeat refine gp_gc [4] od_Rf_count rfl rfl ?_
    refine And.intro (fun c => ?_) (fun c => ?_)
    · rw [ex] at c
      exact absurd c (nI_ge hi (by decide))
    · repeat refine gp_gc [4] od_Rf_count rfl rfl ?_
      rw [ex]
      exact hp _ (gp_inc rfl)
  · intro x ex
    refine gp_go od_Rf_count rfl ?_
    repeat refine gp_gc [4] od_Rf_count rfl rfl ?_
    refine And.intro (fun c => ?_) (fun c => ?_)
    · repeat refine gp_gc [4] od_Rf_count rfl rfl ?_
      exact h
    · rw [ex] at c
      exact absurd (Int32.le_refl _) c
/-! fields of cells at addresses that aren't numbers -/
theorem gs_get {l : Launch} {G : gp_G} {d : Nat} {M : gp_M} {K : Option Value → gp_H → Prop} {k : gp_K} {idx pc : Nat} {ls : List (Option Value)} {r : List Value} {V : gp_H} {cs ss a ci kf t : Nat} {fin : Bool} {fs : List Value} {w : Value} (hV : gp_nth V a = some (.inr (ci, fs))) (hl : gp_lk (gp_fl (gp_o M)) idx = some (ci, kf, t, fin)) (hf : gp_nth fs kf = some w) (h : k (pc + 3) ls (w :: r) V cs ss) : gp_step l G d M K k (.getfield idx) 3 pc ls (.ref a :: r) V cs ss := by
  simp only [gp_step, gp_ln, gp_pA, gp_row, hl, gp_ob, hV, Nat.beq_refl, hf]
  exact h
theorem gs_put {l : Launch} {G : gp_G} {d : Nat} {M : gp_M} {K : Option Value → gp_H → Prop} {k : gp_K} {idx pc : Nat} {ls : List (Option Value)} {r : List Value} {V : gp_H} {cs ss a ci kf : Nat} {fs : List Value} {x : Int32} (hV : gp_nth V a = some (.inr (ci, fs))) (hl : gp_lk (gp_fl (gp_o M)) idx = some (ci, kf, 0, false)) (hf : Nat.blt kf fs.length = true) (h : k (pc + 3) ls r (V.set a (.inr (ci, fs.set kf (.int x)))) cs ss) : gp_step l G d M K k (.putfield idx) 3 pc ls (.int x :: .ref a :: r) V cs ss := by
  simp only [gp_step, gp_ln, gp_row, hl, gp_ob, hV, Nat.beq_refl, hf, gp_bt, gp_pv]
  exact h
theorem gs_ald {l : Launch} {G : gp_G} {d : Nat} {M : gp_M} {K : Option Value → gp_H → Prop} {k : gp_K} {pc : Nat} {ls : List (Option Value)} {r : List Value} {V : gp_H} {cs ss a n : Nat} {f : Nat → Int32} {j : Int32} (hV : gp_nth V a = some (.inl (0, n, .inl f))) (hj : vp_in j n) (h : k (pc + 1) ls (.int (f j.toNatClampNeg) :: r) V cs ss) : gp_step l G d M K k .iaload 1 pc ls (.int j :: .ref a :: r) V cs ss := by
  simp only [gp_step, gp_ln, gp_ai, hV, Nat.beq_refl]
  exact ⟨hj, h⟩
theorem gs_ast {l : Launch} {G : gp_G} {d : Nat} {M : gp_M} {K : Option Value → gp_H → Prop} {k : gp_K} {pc : Nat} {ls : List (Option Value)} {r : List Value} {V : gp_H} {cs ss a n : Nat} {f : Nat → Int32} {j x : Int32} (hV : gp_nth V a = some (.inl (0, n, .inl f))) (hj : vp_in j n) (h : k (pc + 1) ls r (V.set a (.inl (0, n, .inl (upd f j.toNatClampNeg x)))) cs ss) : gp_step l G d M K k .iastore 1 pc ls (.int x :: .int j :: .ref a :: r) V cs ss := by
  simp only [gp_step, gp_ln, gp_ai, hV, Nat.beq_refl]
  exact ⟨hj, h⟩
theorem gp_in_of {x M : Int32} {n : Nat} (hM : M.toInt = (n : Int)) (h0 : 0 ≤ x) (h1 : x ≤ M) : vp_in x (n + 1) := by
  rw [vp_in_iff]
  have a : (0 : Int) ≤ x.toInt := by simpa using Int32.le_iff_toInt_le.mp h0
  have b := Int32.le_iff_toInt_le.mp h1
  omega
theorem gp_inK6 {x : Int32} (h0 : 0 ≤ x) (h1 : x ≤ 6) : vp_in x 7 := gp_in_of (n := 6) rfl h0 h1
end
section
/-! ===== the world: written by wip/whole/gen/gen4.py: the class's cells, then the reference's; w: every int by cell and place; u: the longs; q: which mind stands where (6: the draft) ===== -/
def gp_ma : Nat → Nat := fun m => match m with
  | 0 => 22
  | 1 => 27
  | 2 => 32
  | 3 => 37
  | 4 => 42
  | 5 => 47
  | 6 => 60
  | _ => 0
def gc_0 (w : Nat → Nat → Int32) (u : Int64 × (Nat → Int64)) (q : Nat → Nat) : gp_E := .inr (11, [.ref 1, .ref 21, .ref 55, .ref 52, .ref 65, .ref 72, .ref 76, .ref 78, .ref 80, .ref 83, .ref 91, .long u.1, .int (w 0 12)])
def gc_1 (w : Nat → Nat → Int32) (u : Int64 × (Nat → Int64)) (q : Nat → Nat) : gp_E := .inr (5, [.ref 2, .ref 3, .ref 4, .int (w 1 3), .int (w 1 4)])
def gc_2 (w : Nat → Nat → Int32) (u : Int64 × (Nat → Int64)) (q : Nat → Nat) : gp_E := .inl (4, 16, .inr (.inr (.inr (.inr (fun j => some (5 + j))))))
def gc_3 (w : Nat → Nat → Int32) (u : Int64 × (Nat → Int64)) (q : Nat → Nat) : gp_E := .inl (0, 7, .inl (w 3))
def gc_4 (w : Nat → Nat → Int32) (u : Int64 × (Nat → Int64)) (q : Nat → Nat) : gp_E := .inl (0, 16, .inl (w 4))
def gc_5 (w : Nat → Nat → Int32) (u : Int64 × (Nat → Int64)) (q : Nat → Nat) : gp_E := .inr (2, [.int (w 5 0), .int (w 5 1), .int (w 5 2), .int (w 5 3), .int (w 5 4), .int (w 5 5), .int (w 5 6), .int (w 5 7), .int (w 5 8)])
def gc_6 (w : Nat → Nat → Int32) (u : Int64 × (Nat → Int64)) (q : Nat → Nat) : gp_E := .inr (2, [.int (w 6 0), .int (w 6 1), .int (w 6 2), .int (w 6 3), .int (w 6 4), .int (w 6 5), .int (w 6 6), .int (w 6 7), .int (w 6 8)])
def gc_7 (w : Nat → Nat → Int32) (u : Int64 × (Nat → Int64)) (q : Nat → Nat) : gp_E := .inr (2, [.int (w 7 0), .int (w 7 1), .int (w 7 2), .int (w 7 3), .int (w 7 4), .int (w 7 5), .int (w 7 6), .int (w 7 7), .int (w 7 8)])
def gc_8 (w : Nat → Nat → Int32) (u : Int64 × (Nat → Int64)) (q : Nat → Nat) : gp_E := .inr (2, [.int (w 8 0), .int (w 8 1), .int (w 8 2), .int (w 8 3), .int (w 8 4), .int (w 8 5), .int (w 8 6), .int (w 8 7), .int (w 8 8)])
def gc_9 (w : Nat → Nat → Int32) (u : Int64 × (Nat → Int64)) (q : Nat → Nat) : gp_E := .inr (2, [.int (w 9 0), .int (w 9 1), .int (w 9 2), .int (w 9 3), .int (w 9 4), .int (w 9 5), .int (w 9 6), .int (w 9 7), .int (w 9 8)])
def gc_10 (w : Nat → Nat → Int32) (u : Int64 × (Nat → Int64)) (q : Nat → Nat) : gp_E := .inr (2, [.int (w 10 0), .int (w 10 1), .int (w 10 2), .int (w 10 3), .int (w 10 4), .int (w 10 5), .int (w 10 6), .int (w 10 7), .int (w 10 8)])
def gc_11 (w : Nat → Nat → Int32) (u : Int64 × (Nat → Int64)) (q : Nat → Nat) : gp_E := .inr (2, [.int (w 11 0), .int (w 11 1), .int (w 11 2), .int (w 11 3), .int (w 11 4), .int (w 11 5), .int (w 11 6), .int (w 11 7), .int (w 11 8)])
def gc_12 (w : Nat → Nat → Int32) (u : Int64 × (Nat → Int64)) (q : Nat → Nat) : gp_E := .inr (2, [.int (w 12 0), .int (w 12 1), .int (w 12 2), .int (w 12 3), .int (w 12 4), .int (w 12 5), .int (w 12 6), .int (w 12 7), .int (w 12 8)])
def gc_13 (w : Nat → Nat → Int32) (u : Int64 × (Nat → Int64)) (q : Nat → Nat) : gp_E := .inr (2, [.int (w 13 0), .int (w 13 1), .int (w 13 2), .int (w 13 3), .int (w 13 4), .int (w 13 5), .int (w 13 6), .int (w 13 7), .int (w 13 8)])
def gc_14 (w : Nat → Nat → Int32) (u : Int64 × (Nat → Int64)) (q : Nat → Nat) : gp_E := .inr (2, [.int (w 14 0), .int (w 14 1), .int (w 14 2), .int (w 14 3), .int (w 14 4), .int (w 14 5), .int (w 14 6), .int (w 14 7), .int (w 14 8)])
def gc_15 (w : Nat → Nat → Int32) (u : Int64 × (Nat → Int64)) (q : Nat → Nat) : gp_E := .inr (2, [.int (w 15 0), .int (w 15 1), .int (w 15 2), .int (w 15 3), .int (w 15 4), .int (w 15 5), .int (w 15 6), .int (w 15 7), .int (w 15 8)])
def gc_16 (w : Nat → Nat → Int32) (u : Int64 × (Nat → Int64)) (q : Nat → Nat) : gp_E := .inr (2, [.int (w 16 0), .int (w 16 1), .int (w 16 2), .int (w 16 3), .int (w 16 4), .int (w 16 5), .int (w 16 6), .int (w 16 7), .int (w 16 8)])
def gc_17 (w : Nat → Nat → Int32) (u : Int64 × (Nat → Int64)) (q : Nat → Nat) : gp_E := .inr (2, [.int (w 17 0), .int (w 17 1), .int (w 17 2), .int (w 17 3), .int (w 17 4), .int (w 17 5), .int (w 17 6), .int (w 17 7), .int (w 17 8)])
def gc_18 (w : Nat → Nat → Int32) (u : Int64 × (Nat → Int64)) (q : Nat → Nat) : gp_E := .inr (2, [.int (w 18 0), .int (w 18 1), .int (w 18 2), .int (w 18 3), .int (w 18 4), .int (w 18 5), .int (w 18 6), .int (w 18 7), .int (w 18 8)])
def gc_19 (w : Nat → Nat → Int32) (u : Int64 × (Nat → Int64)) (q : Nat → Nat) : gp_E := .inr (2, [.int (w 19 0), .int (w 19 1), .int (w 19 2), .int (w 19 3), .int (w 19 4), .int (w 19 5), .int (w 19 6), .int (w 19 7), .int (w 19 8)])
def gc_20 (w : Nat → Nat → Int32) (u : Int64 × (Nat → Int64)) (q : Nat → Nat) : gp_E := .inr (2, [.int (w 20 0), .int (w 20 1), .int (w 20 2), .int (w 20 3), .int (w 20 4), .int (w 20 5), .int (w 20 6), .int (w 20 7), .int (w 20 8)])
def gc_21 (w : Nat → Nat → Int32) (u : Int64 × (Nat → Int64)) (q : Nat → Nat) : gp_E := .inl (5, 6, .inr (.inr (.inr (.inr (fun j => some (gp_ma (q j)))))))
def gc_22 (w : Nat → Nat → Int32) (u : Int64 × (Nat → Int64)) (q : Nat → Nat) : gp_E := .inr (3, [.ref 23, .ref 24, .ref 25, .ref 26, .int (w 22 4), .int (w 22 5), .int (w 22 6), .int (w 22 7), .int (w 22 8), .int (w 22 9), .int (w 22 10), .int (w 22 11), .int (w 22 12), .int (w 22 13)])
def gc_23 (w : Nat → Nat → Int32) (u : Int64 × (Nat → Int64)) (q : Nat → Nat) : gp_E := .inl (0, 500, .inl (w 23))
def gc_24 (w : Nat → Nat → Int32) (u : Int64 × (Nat → Int64)) (q : Nat → Nat) : gp_E := .inl (0, 16, .inl (w 24))
def gc_25 (w : Nat → Nat → Int32) (u : Int64 × (Nat → Int64)) (q : Nat → Nat) : gp_E := .inl (0, 16, .inl (w 25))
def gc_26 (w : Nat → Nat → Int32) (u : Int64 × (Nat → Int64)) (q : Nat → Nat) : gp_E := .inl (0, 16, .inl (w 26))
def gc_27 (w : Nat → Nat → Int32) (u : Int64 × (Nat → Int64)) (q : Nat → Nat) : gp_E := .inr (3, [.ref 28, .ref 29, .ref 30, .ref 31, .int (w 27 4), .int (w 27 5), .int (w 27 6), .int (w 27 7), .int (w 27 8), .int (w 27 9), .int (w 27 10), .int (w 27 11), .int (w 27 12), .int (w 27 13)])
def gc_28 (w : Nat → Nat → Int32) (u : Int64 × (Nat → Int64)) (q : Nat → Nat) : gp_E := .inl (0, 500, .inl (w 28))
def gc_29 (w : Nat → Nat → Int32) (u : Int64 × (Nat → Int64)) (q : Nat → Nat) : gp_E := .inl (0, 16, .inl (w 29))
def gc_30 (w : Nat → Nat → Int32) (u : Int64 × (Nat → Int64)) (q : Nat → Nat) : gp_E := .inl (0, 16, .inl (w 30))
def gc_31 (w : Nat → Nat → Int32) (u : Int64 × (Nat → Int64)) (q : Nat → Nat) : gp_E := .inl (0, 16, .inl (w 31))
def gc_32 (w : Nat → Nat → Int32) (u : Int64 × (Nat → Int64)) (q : Nat → Nat) : gp_E := .inr (3, [.ref 33, .ref 34, .ref 35, .ref 36, .int (w 32 4), .int (w 32 5), .int (w 32 6), .int (w 32 7), .int (w 32 8), .int (w 32 9), .int (w 32 10), .int (w 32 11), .int (w 32 12), .int (w 32 13)])
def gc_33 (w : Nat → Nat → Int32) (u : Int64 × (Nat → Int64)) (q : Nat → Nat) : gp_E := .inl (0, 500, .inl (w 33))
def gc_34 (w : Nat → Nat → Int32) (u : Int64 × (Nat → Int64)) (q : Nat → Nat) : gp_E := .inl (0, 16, .inl (w 34))
def gc_35 (w : Nat → Nat → Int32) (u : Int64 × (Nat → Int64)) (q : Nat → Nat) : gp_E := .inl (0, 16, .inl (w 35))
def gc_36 (w : Nat → Nat → Int32) (u : Int64 × (Nat → Int64)) (q : Nat → Nat) : gp_E := .inl (0, 16, .inl (w 36))
def gc_37 (w : Nat → Nat → Int32) (u : Int64 × (Nat → Int64)) (q : Nat → Nat) : gp_E := .inr (3, [.ref 38, .ref 39, .ref 40, .ref 41, .int (w 37 4), .int (w 37 5), .int (w 37 6), .int (w 37 7), .int (w 37 8), .int (w 37 9), .int (w 37 10), .int (w 37 11), .int (w 37 12), .int (w 37 13)])
def gc_38 (w : Nat → Nat → Int32) (u : Int64 × (Nat → Int64)) (q : Nat → Nat) : gp_E := .inl (0, 500, .inl (w 38))
def gc_39 (w : Nat → Nat → Int32) (u : Int64 × (Nat → Int64)) (q : Nat → Nat) : gp_E := .inl (0, 16, .inl (w 39))
def gc_40 (w : Nat → Nat → Int32) (u : Int64 × (Nat → Int64)) (q : Nat → Nat) : gp_E := .inl (0, 16, .inl (w 40))
def gc_41 (w : Nat → Nat → Int32) (u : Int64 × (Nat → Int64)) (q : Nat → Nat) : gp_E := .inl (0, 16, .inl (w 41))
def gc_42 (w : Nat → Nat → Int32) (u : Int64 × (Nat → Int64)) (q : Nat → Nat) : gp_E := .inr (3, [.ref 43, .ref 44, .ref 45, .ref 46, .int (w 42 4), .int (w 42 5), .int (w 42 6), .int (w 42 7), .int (w 42 8), .int (w 42 9), .int (w 42 10), .int (w 42 11), .int (w 42 12), .int (w 42 13)])
def gc_43 (w : Nat → Nat → Int32) (u : Int64 × (Nat → Int64)) (q : Nat → Nat) : gp_E := .inl (0, 500, .inl (w 43))
def gc_44 (w : Nat → Nat → Int32) (u : Int64 × (Nat → Int64)) (q : Nat → Nat) : gp_E := .inl (0, 16, .inl (w 44))
def gc_45 (w : Nat → Nat → Int32) (u : Int64 × (Nat → Int64)) (q : Nat → Nat) : gp_E := .inl (0, 16, .inl (w 45))
def gc_46 (w : Nat → Nat → Int32) (u : Int64 × (Nat → Int64)) (q : Nat → Nat) : gp_E := .inl (0, 16, .inl (w 46))
def gc_47 (w : Nat → Nat → Int32) (u : Int64 × (Nat → Int64)) (q : Nat → Nat) : gp_E := .inr (3, [.ref 48, .ref 49, .ref 50, .ref 51, .int (w 47 4), .int (w 47 5), .int (w 47 6), .int (w 47 7), .int (w 47 8), .int (w 47 9), .int (w 47 10), .int (w 47 11), .int (w 47 12), .int (w 47 13)])
def gc_48 (w : Nat → Nat → Int32) (u : Int64 × (Nat → Int64)) (q : Nat → Nat) : gp_E := .inl (0, 500, .inl (w 48))
def gc_49 (w : Nat → Nat → Int32) (u : Int64 × (Nat → Int64)) (q : Nat → Nat) : gp_E := .inl (0, 16, .inl (w 49))
def gc_50 (w : Nat → Nat → Int32) (u : Int64 × (Nat → Int64)) (q : Nat → Nat) : gp_E := .inl (0, 16, .inl (w 50))
def gc_51 (w : Nat → Nat → Int32) (u : Int64 × (Nat → Int64)) (q : Nat → Nat) : gp_E := .inl (0, 16, .inl (w 51))
def gc_52 (w : Nat → Nat → Int32) (u : Int64 × (Nat → Int64)) (q : Nat → Nat) : gp_E := .inr (8, [.ref 53, .ref 54, .int (w 52 2)])
def gc_53 (w : Nat → Nat → Int32) (u : Int64 × (Nat → Int64)) (q : Nat → Nat) : gp_E := .inl (0, 13, .inl (w 53))
def gc_54 (w : Nat → Nat → Int32) (u : Int64 × (Nat → Int64)) (q : Nat → Nat) : gp_E := .inl (0, 64, .inl (w 54))
def gc_55 (w : Nat → Nat → Int32) (u : Int64 × (Nat → Int64)) (q : Nat → Nat) : gp_E := .inr (4, [.ref 56, .ref 57, .ref 58, .ref 59, .int (w 55 4), .int (w 55 5), .int (w 55 6), .int (w 55 7), .int (w 55 8), .ref (gp_ma (q 6))])
def gc_56 (w : Nat → Nat → Int32) (u : Int64 × (Nat → Int64)) (q : Nat → Nat) : gp_E := .inl (0, 500, .inl (w 56))
def gc_57 (w : Nat → Nat → Int32) (u : Int64 × (Nat → Int64)) (q : Nat → Nat) : gp_E := .inl (0, 501, .inl (w 57))
def gc_58 (w : Nat → Nat → Int32) (u : Int64 × (Nat → Int64)) (q : Nat → Nat) : gp_E := .inl (0, 501, .inl (w 58))
def gc_59 (w : Nat → Nat → Int32) (u : Int64 × (Nat → Int64)) (q : Nat → Nat) : gp_E := .inl (0, 501, .inl (w 59))
def gc_60 (w : Nat → Nat → Int32) (u : Int64 × (Nat → Int64)) (q : Nat → Nat) : gp_E := .inr (3, [.ref 61, .ref 62, .ref 63, .ref 64, .int (w 60 4), .int (w 60 5), .int (w 60 6), .int (w 60 7), .int (w 60 8), .int (w 60 9), .int (w 60 10), .int (w 60 11), .int (w 60 12), .int (w 60 13)])
def gc_61 (w : Nat → Nat → Int32) (u : Int64 × (Nat → Int64)) (q : Nat → Nat) : gp_E := .inl (0, 500, .inl (w 61))
def gc_62 (w : Nat → Nat → Int32) (u : Int64 × (Nat → Int64)) (q : Nat → Nat) : gp_E := .inl (0, 16, .inl (w 62))
def gc_63 (w : Nat → Nat → Int32) (u : Int64 × (Nat → Int64)) (q : Nat → Nat) : gp_E := .inl (0, 16, .inl (w 63))
def gc_64 (w : Nat → Nat → Int32) (u : Int64 × (Nat → Int64)) (q : Nat → Nat) : gp_E := .inl (0, 16, .inl (w 64))
def gc_65 (w : Nat → Nat → Int32) (u : Int64 × (Nat → Int64)) (q : Nat → Nat) : gp_E := .inr (6, [.ref 1, .ref 52, .ref 66, .ref 67, .ref 68, .ref 69, .ref 70, .ref 71, .int (w 65 8), .int (w 65 9), .int (w 65 10), .int (w 65 11), .int (w 65 12)])
def gc_66 (w : Nat → Nat → Int32) (u : Int64 × (Nat → Int64)) (q : Nat → Nat) : gp_E := .inl (0, 10, .inl (w 66))
def gc_67 (w : Nat → Nat → Int32) (u : Int64 × (Nat → Int64)) (q : Nat → Nat) : gp_E := .inl (0, 10, .inl (w 67))
def gc_68 (w : Nat → Nat → Int32) (u : Int64 × (Nat → Int64)) (q : Nat → Nat) : gp_E := .inl (0, 60, .inl (w 68))
def gc_69 (w : Nat → Nat → Int32) (u : Int64 × (Nat → Int64)) (q : Nat → Nat) : gp_E := .inl (0, 11, .inl (w 69))
def gc_70 (w : Nat → Nat → Int32) (u : Int64 × (Nat → Int64)) (q : Nat → Nat) : gp_E := .inl (0, 10, .inl (w 70))
def gc_71 (w : Nat → Nat → Int32) (u : Int64 × (Nat → Int64)) (q : Nat → Nat) : gp_E := .inl (0, 10, .inl (w 71))
def gc_72 (w : Nat → Nat → Int32) (u : Int64 × (Nat → Int64)) (q : Nat → Nat) : gp_E := .inr (1, [.ref 1, .ref 21, .ref 73, .ref 74, .ref 75, .int (w 72 5), .int (w 72 6), .int (w 72 7), .int (w 72 8), .int (w 72 9), .int (w 72 10), .int (w 72 11)])
def gc_73 (w : Nat → Nat → Int32) (u : Int64 × (Nat → Int64)) (q : Nat → Nat) : gp_E := .inl (0, 6, .inl (w 73))
def gc_74 (w : Nat → Nat → Int32) (u : Int64 × (Nat → Int64)) (q : Nat → Nat) : gp_E := .inl (0, 78, .inl (w 74))
def gc_75 (w : Nat → Nat → Int32) (u : Int64 × (Nat → Int64)) (q : Nat → Nat) : gp_E := .inl (0, 78, .inl (w 75))
def gc_76 (w : Nat → Nat → Int32) (u : Int64 × (Nat → Int64)) (q : Nat → Nat) : gp_E := .inr (0, [.ref 77, .int (w 76 1)])
def gc_77 (w : Nat → Nat → Int32) (u : Int64 × (Nat → Int64)) (q : Nat → Nat) : gp_E := .inl (1, 400, .inl (w 77))
def gc_78 (w : Nat → Nat → Int32) (u : Int64 × (Nat → Int64)) (q : Nat → Nat) : gp_E := .inr (0, [.ref 79, .int (w 78 1)])
def gc_79 (w : Nat → Nat → Int32) (u : Int64 × (Nat → Int64)) (q : Nat → Nat) : gp_E := .inl (1, 400, .inl (w 79))
def gc_80 (w : Nat → Nat → Int32) (u : Int64 × (Nat → Int64)) (q : Nat → Nat) : gp_E := .inr (10, [.ref 81, .ref 82, .int (w 80 2)])
def gc_81 (w : Nat → Nat → Int32) (u : Int64 × (Nat → Int64)) (q : Nat → Nat) : gp_E := .inl (0, 24, .inl (w 81))
def gc_82 (w : Nat → Nat → Int32) (u : Int64 × (Nat → Int64)) (q : Nat → Nat) : gp_E := .inl (0, 24, .inl (w 82))
def gc_83 (w : Nat → Nat → Int32) (u : Int64 × (Nat → Int64)) (q : Nat → Nat) : gp_E := .inr (7, [.ref 84, .ref 85, .ref 86, .ref 87, .ref 88, .ref 89, .ref 90, .int (w 83 7), .int (w 83 8), .int (w 83 9), .int (w 83 10), .int (w 83 11), .int (w 83 12)])
def gc_84 (w : Nat → Nat → Int32) (u : Int64 × (Nat → Int64)) (q : Nat → Nat) : gp_E := .inl (0, 14, .inl (w 84))
def gc_85 (w : Nat → Nat → Int32) (u : Int64 × (Nat → Int64)) (q : Nat → Nat) : gp_E := .inl (0, 14, .inl (w 85))
def gc_86 (w : Nat → Nat → Int32) (u : Int64 × (Nat → Int64)) (q : Nat → Nat) : gp_E := .inl (0, 14, .inl (w 86))
def gc_87 (w : Nat → Nat → Int32) (u : Int64 × (Nat → Int64)) (q : Nat → Nat) : gp_E := .inl (0, 14, .inl (w 87))
def gc_88 (w : Nat → Nat → Int32) (u : Int64 × (Nat → Int64)) (q : Nat → Nat) : gp_E := .inl (0, 14, .inl (w 88))
def gc_89 (w : Nat → Nat → Int32) (u : Int64 × (Nat → Int64)) (q : Nat → Nat) : gp_E := .inl (0, 14, .inl (w 89))
def gc_90 (w : Nat → Nat → Int32) (u : Int64 × (Nat → Int64)) (q : Nat → Nat) : gp_E := .inl (0, 14, .inl (w 90))
def gc_91 (w : Nat → Nat → Int32) (u : Int64 × (Nat → Int64)) (q : Nat → Nat) : gp_E := .inr (9, [.ref 92, .ref 93, .ref 94, .int (w 91 3)])
def gc_92 (w : Nat → Nat → Int32) (u : Int64 × (Nat → Int64)) (q : Nat → Nat) : gp_E := .inl (3, 40, .inr (.inl u.2))
def gc_93 (w : Nat → Nat → Int32) (u : Int64 × (Nat → Int64)) (q : Nat → Nat) : gp_E := .inl (0, 40, .inl (w 93))
def gc_94 (w : Nat → Nat → Int32) (u : Int64 × (Nat → Int64)) (q : Nat → Nat) : gp_E := .inl (0, 40, .inl (w 94))
def gc_95 (w : Nat → Nat → Int32) (u : Int64 × (Nat → Int64)) (q : Nat → Nat) : gp_E := .inr (12, [.int (w 95 0), .int (w 95 1), .int (w 95 2), .ref 96, .ref 97, .ref 98, .ref 99, .ref 100, .ref 101, .ref 102, .ref 103, .ref 104, .ref 105, .int (w 95 13), .int (w 95 14), .ref 106, .ref 107, .ref 108, .ref 109, .ref 110, .ref 111, .ref 112, .ref 113, .ref 114, .ref 115, .ref 116, .ref 117, .ref 118, .ref 119, .ref 120, .ref 121, .ref 122, .int (w 95 32), .int (w 95 33), .int (w 95 34), .int (w 95 35), .int (w 95 36), .int (w 95 37), .int (w 95 38), .int (w 95 39), .int (w 95 40), .int (w 95 41), .int (w 95 42), .ref 123, .ref 124, .ref 125, .int (w 95 46), .int (w 95 47), .int (w 95 48), .int (w 95 49), .int (w 95 50), .int (w 95 51), .ref 126, .ref 127, .ref 128, .ref 129, .int (w 95 56), .int (w 95 57), .ref 130, .ref 131, .ref 132, .ref 133, .ref 134, .ref 135, .ref 136, .int (w 95 65), .ref 137, .ref 138, .ref 139, .ref 140])
def gc_96 (w : Nat → Nat → Int32) (u : Int64 × (Nat → Int64)) (q : Nat → Nat) : gp_E := .inl (0, 16, .inl (w 96))
def gc_97 (w : Nat → Nat → Int32) (u : Int64 × (Nat → Int64)) (q : Nat → Nat) : gp_E := .inl (0, 16, .inl (w 97))
def gc_98 (w : Nat → Nat → Int32) (u : Int64 × (Nat → Int64)) (q : Nat → Nat) : gp_E := .inl (0, 16, .inl (w 98))
def gc_99 (w : Nat → Nat → Int32) (u : Int64 × (Nat → Int64)) (q : Nat → Nat) : gp_E := .inl (0, 16, .inl (w 99))
def gc_100 (w : Nat → Nat → Int32) (u : Int64 × (Nat → Int64)) (q : Nat → Nat) : gp_E := .inl (0, 16, .inl (w 100))
def gc_101 (w : Nat → Nat → Int32) (u : Int64 × (Nat → Int64)) (q : Nat → Nat) : gp_E := .inl (0, 16, .inl (w 101))
def gc_102 (w : Nat → Nat → Int32) (u : Int64 × (Nat → Int64)) (q : Nat → Nat) : gp_E := .inl (0, 16, .inl (w 102))
def gc_103 (w : Nat → Nat → Int32) (u : Int64 × (Nat → Int64)) (q : Nat → Nat) : gp_E := .inl (0, 32, .inl (w 103))
def gc_104 (w : Nat → Nat → Int32) (u : Int64 × (Nat → Int64)) (q : Nat → Nat) : gp_E := .inl (0, 7, .inl (w 104))
def gc_105 (w : Nat → Nat → Int32) (u : Int64 × (Nat → Int64)) (q : Nat → Nat) : gp_E := .inl (0, 16, .inl (w 105))
def gc_106 (w : Nat → Nat → Int32) (u : Int64 × (Nat → Int64)) (q : Nat → Nat) : gp_E := .inl (0, 16, .inl (w 106))
def gc_107 (w : Nat → Nat → Int32) (u : Int64 × (Nat → Int64)) (q : Nat → Nat) : gp_E := .inl (0, 7, .inl (w 107))
def gc_108 (w : Nat → Nat → Int32) (u : Int64 × (Nat → Int64)) (q : Nat → Nat) : gp_E := .inl (0, 7, .inl (w 108))
def gc_109 (w : Nat → Nat → Int32) (u : Int64 × (Nat → Int64)) (q : Nat → Nat) : gp_E := .inl (0, 7, .inl (w 109))
def gc_110 (w : Nat → Nat → Int32) (u : Int64 × (Nat → Int64)) (q : Nat → Nat) : gp_E := .inl (0, 7, .inl (w 110))
def gc_111 (w : Nat → Nat → Int32) (u : Int64 × (Nat → Int64)) (q : Nat → Nat) : gp_E := .inl (0, 7, .inl (w 111))
def gc_112 (w : Nat → Nat → Int32) (u : Int64 × (Nat → Int64)) (q : Nat → Nat) : gp_E := .inl (0, 7, .inl (w 112))
def gc_113 (w : Nat → Nat → Int32) (u : Int64 × (Nat → Int64)) (q : Nat → Nat) : gp_E := .inl (0, 7, .inl (w 113))
def gc_114 (w : Nat → Nat → Int32) (u : Int64 × (Nat → Int64)) (q : Nat → Nat) : gp_E := .inl (0, 112, .inl (w 114))
def gc_115 (w : Nat → Nat → Int32) (u : Int64 × (Nat → Int64)) (q : Nat → Nat) : gp_E := .inl (0, 112, .inl (w 115))
def gc_116 (w : Nat → Nat → Int32) (u : Int64 × (Nat → Int64)) (q : Nat → Nat) : gp_E := .inl (0, 112, .inl (w 116))
def gc_117 (w : Nat → Nat → Int32) (u : Int64 × (Nat → Int64)) (q : Nat → Nat) : gp_E := .inl (0, 7140, .inl (w 117))
def gc_118 (w : Nat → Nat → Int32) (u : Int64 × (Nat → Int64)) (q : Nat → Nat) : gp_E := .inl (0, 500, .inl (w 118))
def gc_119 (w : Nat → Nat → Int32) (u : Int64 × (Nat → Int64)) (q : Nat → Nat) : gp_E := .inl (0, 520, .inl (w 119))
def gc_120 (w : Nat → Nat → Int32) (u : Int64 × (Nat → Int64)) (q : Nat → Nat) : gp_E := .inl (0, 14, .inl (w 120))
def gc_121 (w : Nat → Nat → Int32) (u : Int64 × (Nat → Int64)) (q : Nat → Nat) : gp_E := .inl (2, 7, .inl (w 121))
def gc_122 (w : Nat → Nat → Int32) (u : Int64 × (Nat → Int64)) (q : Nat → Nat) : gp_E := .inl (2, 7, .inl (w 122))
def gc_123 (w : Nat → Nat → Int32) (u : Int64 × (Nat → Int64)) (q : Nat → Nat) : gp_E := .inl (0, 80, .inl (w 123))
def gc_124 (w : Nat → Nat → Int32) (u : Int64 × (Nat → Int64)) (q : Nat → Nat) : gp_E := .inl (0, 10, .inl (w 124))
def gc_125 (w : Nat → Nat → Int32) (u : Int64 × (Nat → Int64)) (q : Nat → Nat) : gp_E := .inl (0, 10, .inl (w 125))
def gc_126 (w : Nat → Nat → Int32) (u : Int64 × (Nat → Int64)) (q : Nat → Nat) : gp_E := .inl (0, 400, .inl (w 126))
def gc_127 (w : Nat → Nat → Int32) (u : Int64 × (Nat → Int64)) (q : Nat → Nat) : gp_E := .inl (0, 400, .inl (w 127))
def gc_128 (w : Nat → Nat → Int32) (u : Int64 × (Nat → Int64)) (q : Nat → Nat) : gp_E := .inl (0, 400, .inl (w 128))
def gc_129 (w : Nat → Nat → Int32) (u : Int64 × (Nat → Int64)) (q : Nat → Nat) : gp_E := .inl (0, 400, .inl (w 129))
def gc_130 (w : Nat → Nat → Int32) (u : Int64 × (Nat → Int64)) (q : Nat → Nat) : gp_E := .inl (0, 14, .inl (w 130))
def gc_131 (w : Nat → Nat → Int32) (u : Int64 × (Nat → Int64)) (q : Nat → Nat) : gp_E := .inl (0, 14, .inl (w 131))
def gc_132 (w : Nat → Nat → Int32) (u : Int64 × (Nat → Int64)) (q : Nat → Nat) : gp_E := .inl (0, 14, .inl (w 132))
def gc_133 (w : Nat → Nat → Int32) (u : Int64 × (Nat → Int64)) (q : Nat → Nat) : gp_E := .inl (0, 14, .inl (w 133))
def gc_134 (w : Nat → Nat → Int32) (u : Int64 × (Nat → Int64)) (q : Nat → Nat) : gp_E := .inl (0, 14, .inl (w 134))
def gc_135 (w : Nat → Nat → Int32) (u : Int64 × (Nat → Int64)) (q : Nat → Nat) : gp_E := .inl (0, 14, .inl (w 135))
def gc_136 (w : Nat → Nat → Int32) (u : Int64 × (Nat → Int64)) (q : Nat → Nat) : gp_E := .inl (0, 14, .inl (w 136))
def gc_137 (w : Nat → Nat → Int32) (u : Int64 × (Nat → Int64)) (q : Nat → Nat) : gp_E := .inl (0, 40, .inl (w 137))
def gc_138 (w : Nat → Nat → Int32) (u : Int64 × (Nat → Int64)) (q : Nat → Nat) : gp_E := .inl (0, 400, .inl (w 138))
def gc_139 (w : Nat → Nat → Int32) (u : Int64 × (Nat → Int64)) (q : Nat → Nat) : gp_E := .inl (0, 40, .inl (w 139))
def gc_140 (w : Nat → Nat → Int32) (u : Int64 × (Nat → Int64)) (q : Nat → Nat) : gp_E := .inl (0, 16, .inl (w 140))
def gv (w : Nat → Nat → Int32) (u : Int64 × (Nat → Int64)) (q : Nat → Nat) : gp_H := [gc_0 w u q, gc_1 w u q, gc_2 w u q, gc_3 w u q, gc_4 w u q, gc_5 w u q, gc_6 w u q, gc_7 w u q, gc_8 w u q, gc_9 w u q, gc_10 w u q, gc_11 w u q, gc_12 w u q, gc_13 w u q, gc_14 w u q, gc_15 w u q, gc_16 w u q, gc_17 w u q, gc_18 w u q, gc_19 w u q, gc_20 w u q, gc_21 w u q, gc_22 w u q, gc_23 w u q, gc_24 w u q, gc_25 w u q, gc_26 w u q, gc_27 w u q, gc_28 w u q, gc_29 w u q, gc_30 w u q, gc_31 w u q, gc_32 w u q, gc_33 w u q, gc_34 w u q, gc_35 w u q, gc_36 w u q, gc_37 w u q, gc_38 w u q, gc_39 w u q, gc_40 w u q, gc_41 w u q, gc_42 w u q, gc_43 w u q, gc_44 w u q, gc_45 w u q, gc_46 w u q, gc_47 w u q, gc_48 w u q, gc_49 w u q, gc_50 w u q, gc_51 w u q, gc_52 w u q, gc_53 w u q, gc_54 w u q, gc_55 w u q, gc_56 w u q, gc_57 w u q, gc_58 w u q, gc_59 w u q, gc_60 w u q, gc_61 w u q, gc_62 w u q, gc_63 w u q, gc_64 w u q, gc_65 w u q, gc_66 w u q, gc_67 w u q, gc_68 w u q, gc_69 w u q, gc_70 w u q, gc_71 w u q, gc_72 w u q, gc_73 w u q, gc_74 w u q, gc_75 w u q, gc_76 w u q, gc_77 w u q, gc_78 w u q, gc_79 w u q, gc_80 w u q, gc_81 w u q, gc_82 w u q, gc_83 w u q, gc_84 w u q, gc_85 w u q, gc_86 w u q, gc_87 w u q, gc_88 w u q, gc_89 w u q, gc_90 w u q, gc_91 w u q, gc_92 w u q, gc_93 w u q, gc_94 w u q, gc_95 w u q, gc_96 w u q, gc_97 w u q, gc_98 w u q, gc_99 w u q, gc_100 w u q, gc_101 w u q, gc_102 w u q, gc_103 w u q, gc_104 w u q, gc_105 w u q, gc_106 w u q, gc_107 w u q, gc_108 w u q, gc_109 w u q, gc_110 w u q, gc_111 w u q, gc_112 w u q, gc_113 w u q, gc_114 w u q, gc_115 w u q, gc_116 w u q, gc_117 w u q, gc_118 w u q, gc_119 w u q, gc_120 w u q, gc_121 w u q, gc_122 w u q, gc_123 w u q, gc_124 w u q, gc_125 w u q, gc_126 w u q, gc_127 w u q, gc_128 w u q, gc_129 w u q, gc_130 w u q, gc_131 w u q, gc_132 w u q, gc_133 w u q, gc_134 w u q, gc_135 w u q, gc_136 w u q, gc_137 w u q, gc_138 w u q, gc_139 w u q, gc_140 w u q]
def gw (w : Nat → Nat → Int32) (a k : Nat) (x : Int32) : Nat → Nat → Int32 := fun b => if b = a then upd (w a) k x else w b
set_option maxRecDepth 100000 in
theorem gv_mark {w : Nat → Nat → Int32} {u : Int64 × (Nat → Int64)} {q : Nat → Nat} {i : Nat} (h : i < 16) : gp_nth (gv w u q) (5 + i) = some (.inr (2, [.int (w (5 + i) 0), .int (w (5 + i) 1), .int (w (5 + i) 2), .int (w (5 + i) 3), .int (w (5 + i) 4), .int (w (5 + i) 5), .int (w (5 + i) 6), .int (w (5 + i) 7), .int (w (5 + i) 8)])) := by
  rcases (show i = 0 ∨ i = 1 ∨ i = 2 ∨ i = 3 ∨ i = 4 ∨ i = 5 ∨ i = 6 ∨ i = 7 ∨ i = 8 ∨ i = 9 ∨ i = 10 ∨ i = 11 ∨ i = 12 ∨ i = 13 ∨ i = 14 ∨ i = 15 by omega) with rfl | rfl | rfl | rfl | rfl | rfl | rfl | rfl | rfl | rfl | rfl | rfl | rfl | rfl | rfl | rfl <;> rfl
set_option maxRecDepth 100000 in
theorem gv_mark_set {w : Nat → Nat → Int32} {u : Int64 × (Nat → Int64)} {q : Nat → Nat} {i k : Nat} {x : Int32} (h : i < 16) (hk : k < 9) : (gv w u q).set (5 + i) (.inr (2, [.int (w (5 + i) 0), .int (w (5 + i) 1), .int (w (5 + i) 2), .int (w (5 + i) 3), .int (w (5 + i) 4), .int (w (5 + i) 5), .int (w (5 + i) 6), .int (w (5 + i) 7), .int (w (5 + i) 8)].set k (.int x))) = gv (gw w (5 + i) k x) u q := by
  rcases (show k = 0 ∨ k = 1 ∨ k = 2 ∨ k = 3 ∨ k = 4 ∨ k = 5 ∨ k = 6 ∨ k = 7 ∨ k = 8 by omega) with rfl | rfl | rfl | rfl | rfl | rfl | rfl | rfl | rfl <;> rcases (show i = 0 ∨ i = 1 ∨ i = 2 ∨ i = 3 ∨ i = 4 ∨ i = 5 ∨ i = 6 ∨ i = 7 ∨ i = 8 ∨ i = 9 ∨ i = 10 ∨ i = 11 ∨ i = 12 ∨ i = 13 ∨ i = 14 ∨ i = 15 by omega) with rfl | rfl | rfl | rfl | rfl | rfl | rfl | rfl | rfl | rfl | rfl | rfl | rfl | rfl | rfl | rfl <;> rfl
set_option maxRecDepth 100000 in
theorem gv_mind {w : Nat → Nat → Int32} {u : Int64 × (Nat → Int64)} {q : Nat → Nat} {m : Nat} (h : m < 7) : gp_nth (gv w u q) (gp_ma m) = some (.inr (3, [.ref (gp_ma m + 1), .ref (gp_ma m + 2), .ref (gp_ma m + 3), .ref (gp_ma m + 4), .int (w (gp_ma m) 4), .int (w (gp_ma m) 5), .int (w (gp_ma m) 6), .int (w (gp_ma m) 7), .int (w (gp_ma m) 8), .int (w (gp_ma m) 9), .int (w (gp_ma m) 10), .int (w (gp_ma m) 11), .int (w (gp_ma m) 12), .int (w (gp_ma m) 13)])) := by
  rcases (show m = 0 ∨ m = 1 ∨ m = 2 ∨ m = 3 ∨ m = 4 ∨ m = 5 ∨ m = 6 by omega) with rfl | rfl | rfl | rfl | rfl | rfl | rfl <;> rfl
set_option maxRecDepth 100000 in
theorem gv_ma1 {w : Nat → Nat → Int32} {u : Int64 × (Nat → Int64)} {q : Nat → Nat} {m : Nat} (h : m < 7) : gp_nth (gv w u q) (gp_ma m + 1) = some (.inl (0, 500, .inl (w (gp_ma m + 1)))) := by
  rcases (show m = 0 ∨ m = 1 ∨ m = 2 ∨ m = 3 ∨ m = 4 ∨ m = 5 ∨ m = 6 by omega) with rfl | rfl | rfl | rfl | rfl | rfl | rfl <;> rfl
set_option maxRecDepth 100000 in
theorem gv_ma1_set {w : Nat → Nat → Int32} {u : Int64 × (Nat → Int64)} {q : Nat → Nat} {m j : Nat} {x : Int32} (h : m < 7) : (gv w u q).set (gp_ma m + 1) (.inl (0, 500, .inl (upd (w (gp_ma m + 1)) j x))) = gv (gw w (gp_ma m + 1) j x) u q := by
  rcases (show m = 0 ∨ m = 1 ∨ m = 2 ∨ m = 3 ∨ m = 4 ∨ m = 5 ∨ m = 6 by omega) with rfl | rfl | rfl | rfl | rfl | rfl | rfl <;> rfl
set_option maxRecDepth 100000 in
theorem gv_ma2 {w : Nat → Nat → Int32} {u : Int64 × (Nat → Int64)} {q : Nat → Nat} {m : Nat} (h : m < 7) : gp_nth (gv w u q) (gp_ma m + 2) = some (.inl (0, 16, .inl (w (gp_ma m + 2)))) := by
  rcases (show m = 0 ∨ m = 1 ∨ m = 2 ∨ m = 3 ∨ m = 4 ∨ m = 5 ∨ m = 6 by omega) with rfl | rfl | rfl | rfl | rfl | rfl | rfl <;> rfl
set_option maxRecDepth 100000 in
theorem gv_ma2_set {w : Nat → Nat → Int32} {u : Int64 × (Nat → Int64)} {q : Nat → Nat} {m j : Nat} {x : Int32} (h : m < 7) : (gv w u q).set (gp_ma m + 2) (.inl (0, 16, .inl (upd (w (gp_ma m + 2)) j x))) = gv (gw w (gp_ma m + 2) j x) u q := by
  rcases (show m = 0 ∨ m = 1 ∨ m = 2 ∨ m = 3 ∨ m = 4 ∨ m = 5 ∨ m = 6 by omega) with rfl | rfl | rfl | rfl | rfl | rfl | rfl <;> rfl
set_option maxRecDepth 100000 in
theorem gv_ma3 {w : Nat → Nat → Int32} {u : Int64 × (Nat → Int64)} {q : Nat → Nat} {m : Nat} (h : m < 7) : gp_nth (gv w u q) (gp_ma m + 3) = some (.inl (0, 16, .inl (w (gp_ma m + 3)))) := by
  rcases (show m = 0 ∨ m = 1 ∨ m = 2 ∨ m = 3 ∨ m = 4 ∨ m = 5 ∨ m = 6 by omega) with rfl | rfl | rfl | rfl | rfl | rfl | rfl <;> rfl
set_option maxRecDepth 100000 in
theorem gv_ma3_set {w : Nat → Nat → Int32} {u : Int64 × (Nat → Int64)} {q : Nat → Nat} {m j : Nat} {x : Int32} (h : m < 7) : (gv w u q).set (gp_ma m + 3) (.inl (0, 16, .inl (upd (w (gp_ma m + 3)) j x))) = gv (gw w (gp_ma m + 3) j x) u q := by
  rcases (show m = 0 ∨ m = 1 ∨ m = 2 ∨ m = 3 ∨ m = 4 ∨ m = 5 ∨ m = 6 by omega) with rfl | rfl | rfl | rfl | rfl | rfl | rfl <;> rfl
set_option maxRecDepth 100000 in
theorem gv_ma4 {w : Nat → Nat → Int32} {u : Int64 × (Nat → Int64)} {q : Nat → Nat} {m : Nat} (h : m < 7) : gp_nth (gv w u q) (gp_ma m + 4) = some (.inl (0, 16, .inl (w (gp_ma m + 4)))) := by
  rcases (show m = 0 ∨ m = 1 ∨ m = 2 ∨ m = 3 ∨ m = 4 ∨ m = 5 ∨ m = 6 by omega) with rfl | rfl | rfl | rfl | rfl | rfl | rfl <;> rfl
set_option maxRecDepth 100000 in
theorem gv_ma4_set {w : Nat → Nat → Int32} {u : Int64 × (Nat → Int64)} {q : Nat → Nat} {m j : Nat} {x : Int32} (h : m < 7) : (gv w u q).set (gp_ma m + 4) (.inl (0, 16, .inl (upd (w (gp_ma m + 4)) j x))) = gv (gw w (gp_ma m + 4) j x) u q := by
  rcases (show m = 0 ∨ m = 1 ∨ m = 2 ∨ m = 3 ∨ m = 4 ∨ m = 5 ∨ m = 6 by omega) with rfl | rfl | rfl | rfl | rfl | rfl | rfl <;> rfl
set_option maxRecDepth 100000 in
theorem gv_mind_set {w : Nat → Nat → Int32} {u : Int64 × (Nat → Int64)} {q : Nat → Nat} {m k : Nat} {x : Int32} (h : m < 7) (hk : 4 ≤ k ∧ k < 14) : (gv w u q).set (gp_ma m) (.inr (3, [.ref (gp_ma m + 1), .ref (gp_ma m + 2), .ref (gp_ma m + 3), .ref (gp_ma m + 4), .int (w (gp_ma m) 4), .int (w (gp_ma m) 5), .int (w (gp_ma m) 6), .int (w (gp_ma m) 7), .int (w (gp_ma m) 8), .int (w (gp_ma m) 9), .int (w (gp_ma m) 10), .int (w (gp_ma m) 11), .int (w (gp_ma m) 12), .int (w (gp_ma m) 13)].set k (.int x))) = gv (gw w (gp_ma m) k x) u q := by
  rcases (show k = 4 ∨ k = 5 ∨ k = 6 ∨ k = 7 ∨ k = 8 ∨ k = 9 ∨ k = 10 ∨ k = 11 ∨ k = 12 ∨ k = 13 by omega) with rfl | rfl | rfl | rfl | rfl | rfl | rfl | rfl | rfl | rfl <;> rcases (show m = 0 ∨ m = 1 ∨ m = 2 ∨ m = 3 ∨ m = 4 ∨ m = 5 ∨ m = 6 by omega) with rfl | rfl | rfl | rfl | rfl | rfl | rfl <;> rfl
end
section
/-! a local that isn't needed any more -/
def gp_no : List (Option Value) → Nat → List (Option Value)
  | [], _ => []
  | _ :: t, 0 => none :: t
  | a :: t, n + 1 => a :: gp_no t n
theorem gp_no_e : ∀ {ls : List (Option Value)} {n i : Nat} {v : Value}, gp_gl (gp_no ls n) i = some v → gp_gl ls i = some v
  | [], _, _, _, h => by simp [gp_no, gp_gl] at h
  | _ :: t, 0, 0, v, h => by simp [gp_no, gp_gl] at h
  | _ :: t, 0, i + 1, v, h => h
  | a :: t, n + 1, 0, v, h => h
  | a :: t, n + 1, i + 1, v, h => gp_no_e (ls := t) (n := n) h
theorem gp_no_len : ∀ (ls : List (Option Value)) (n : Nat), (gp_no ls n).length = ls.length
  | [], _ => rfl
  | _ :: t, 0 => rfl
  | a :: t, n + 1 => by simp only [gp_no, List.length_cons, gp_no_len t n]
theorem gp_drop {l : Launch} {G : gp_G} {d : Nat} {M : gp_M} {K : Option Value → gp_H → Prop} {pc : Nat} {ls : List (Option Value)} {st : List Value} {V : gp_H} {cs ss : Nat} (n : Nat) (h : gp_Go l G d M K pc (gp_no ls n) st V cs ss) : gp_Go l G d M K pc ls st V cs ss := by
  intro p e s m args below meth c H locs la F D
  exact h p e s m args below meth c H locs la F (D.ls ⟨D.2.2.2.2.1.1, D.2.2.2.2.1.2.1, by rw [gp_no_len]; exact D.2.2.2.2.1.2.2.1, fun i v hv => D.2.2.2.2.1.2.2.2 i v (gp_no_e hv)⟩)
theorem gp_clamp {x : Int32} {i : Nat} (h : x = nI i) (hi : i < 2 ^ 31) : x.toNatClampNeg = i := by rw [h]; exact nI_clamp hi
/-- a counted loop whose counter and bound are ints of the machine -/
theorem gp_lt_nI {x y : Int32} {i n : Nat} (hx : x = nI i) (hy : y = nI n) (hi : i < 2 ^ 31) (hn : n < 2 ^ 31) : x < y ↔ i < n := by rw [hx, hy]; exact nI_ltI hi hn
theorem gp_le_nI {x y : Int32} {i n : Nat} (hx : x = nI i) (hy : y = nI n) (hi : i < 2 ^ 31) (hn : n < 2 ^ 31) : x ≤ y ↔ i ≤ n := by rw [hx, hy]; exact nI_leI hi hn
/-! branches that are decided -/
theorem gb_eq_t {x y : Int32} {A B : Prop} (h : x = y) (a : A) : gp_b2 .eq x y A B := ⟨fun _ => a, fun z => absurd h z⟩
theorem gb_eq_f {x y : Int32} {A B : Prop} (h : ¬ x = y) (b : B) : gp_b2 .eq x y A B := ⟨fun z => absurd z h, fun _ => b⟩
theorem gb_ne_t {x y : Int32} {A B : Prop} (h : ¬ x = y) (a : A) : gp_b2 .ne x y A B := ⟨fun _ => a, fun z => absurd z h⟩
theorem gb_ne_f {x y : Int32} {A B : Prop} (h : x = y) (b : B) : gp_b2 .ne x y A B := ⟨fun z => absurd h z, fun _ => b⟩
theorem gb_lt_t {x y : Int32} {A B : Prop} (h : x < y) (a : A) : gp_b2 .lt x y A B := ⟨fun _ => a, fun z => absurd h z⟩
theorem gb_lt_f {x y : Int32} {A B : Prop} (h : ¬ x < y) (b : B) : gp_b2 .lt x y A B := ⟨fun z => absurd z h, fun _ => b⟩
theorem gb_lt_t' {x y : Int32} {A B : Prop} (h : ¬ y ≤ x) (a : A) : gp_b2 .lt x y A B := gb_lt_t (Int32.not_le.mp h) a
theorem gb_lt_f' {x y : Int32} {A B : Prop} (h : y ≤ x) (b : B) : gp_b2 .lt x y A B := gb_lt_f (Int32.not_lt.mpr h) b
theorem gb_ge_t {x y : Int32} {A B : Prop} (h : y ≤ x) (a : A) : gp_b2 .ge x y A B := ⟨fun _ => a, fun z => absurd h z⟩
theorem gb_ge_f {x y : Int32} {A B : Prop} (h : ¬ y ≤ x) (b : B) : gp_b2 .ge x y A B := ⟨fun z => absurd z h, fun _ => b⟩
theorem gb_ge_t' {x y : Int32} {A B : Prop} (h : ¬ x < y) (a : A) : gp_b2 .ge x y A B := gb_ge_t (Int32.not_lt.mp h) a
theorem gb_ge_f' {x y : Int32} {A B : Prop} (h : x < y) (b : B) : gp_b2 .ge x y A B := gb_ge_f (Int32.not_le.mpr h) b
theorem gb_gt_t {x y : Int32} {A B : Prop} (h : y < x) (a : A) : gp_b2 .gt x y A B := ⟨fun _ => a, fun z => absurd h z⟩
theorem gb_gt_f {x y : Int32} {A B : Prop} (h : ¬ y < x) (b : B) : gp_b2 .gt x y A B := ⟨fun z => absurd z h, fun _ => b⟩
theorem gb_gt_t' {x y : Int32} {A B : Prop} (h : ¬ x ≤ y) (a : A) : gp_b2 .gt x y A B := gb_gt_t (Int32.not_le.mp h) a
theorem gb_gt_f' {x y : Int32} {A B : Prop} (h : x ≤ y) (b : B) : gp_b2 .gt x y A B := gb_gt_f (Int32.not_lt.mpr h) b
theorem gb_le_t {x y : Int32} {A B : Prop} (h : x ≤ y) (a : A) : gp_b2 .le x y A B := ⟨fun _ => a, fun z => absurd h z⟩
theorem gb_le_f {x y : Int32} {A B : Prop} (h : ¬ x ≤ y) (b : B) : gp_b2 .le x y A B := ⟨fun z => absurd z h, fun _ => b⟩
theorem gb_le_t' {x y : Int32} {A B : Prop} (h : ¬ y < x) (a : A) : gp_b2 .le x y A B := gb_le_t (Int32.not_lt.mp h) a
theorem gb_le_f' {x y : Int32} {A B : Prop} (h : y < x) (b : B) : gp_b2 .le x y A B := gb_le_f (Int32.not_le.mpr h) b
theorem gb1_eq_t {x : Int32} {A B : Prop} (h : x = 0) (a : A) : gp_b1 .eq x A B := ⟨fun _ => a, fun z => absurd h z⟩
theorem gb1_eq_f {x : Int32} {A B : Prop} (h : ¬ x = 0) (b : B) : gp_b1 .eq x A B := ⟨fun z => absurd z h, fun _ => b⟩
theorem gb1_ne_t {x : Int32} {A B : Prop} (h : ¬ x = 0) (a : A) : gp_b1 .ne x A B := ⟨fun _ => a, fun z => absurd z h⟩
theorem gb1_ne_f {x : Int32} {A B : Prop} (h : x = 0) (b : B) : gp_b1 .ne x A B := ⟨fun z => absurd h z, fun _ => b⟩
theorem gb1_lt_t {x : Int32} {A B : Prop} (h : x < 0) (a : A) : gp_b1 .lt x A B := ⟨fun _ => a, fun z => absurd h z⟩
theorem gb1_lt_f {x : Int32} {A B : Prop} (h : ¬ x < 0) (b : B) : gp_b1 .lt x A B := ⟨fun z => absurd z h, fun _ => b⟩
theorem gb1_lt_t' {x : Int32} {A B : Prop} (h : ¬ 0 ≤ x) (a : A) : gp_b1 .lt x A B := gb1_lt_t (Int32.not_le.mp h) a
theorem gb1_lt_f' {x : Int32} {A B : Prop} (h : 0 ≤ x) (b : B) : gp_b1 .lt x A B := gb1_lt_f (Int32.not_lt.mpr h) b
theorem gb1_ge_t {x : Int32} {A B : Prop} (h : 0 ≤ x) (a : A) : gp_b1 .ge x A B := ⟨fun _ => a, fun z => absurd h z⟩
theorem gb1_ge_f {x : Int32} {A B : Prop} (h : ¬ 0 ≤ x) (b : B) : gp_b1 .ge x A B := ⟨fun z => absurd z h, fun _ => b⟩
theorem gb1_ge_t' {x : Int32} {A B : Prop} (h : ¬ x < 0) (a : A) : gp_b1 .ge x A B := gb1_ge_t (Int32.not_lt.mp h) a
theorem gb1_ge_f' {x : Int32} {A B : Prop} (h : x < 0) (b : B) : gp_b1 .ge x A B := gb1_ge_f (Int32.not_le.mpr h) b
theorem gb1_gt_t {x : Int32} {A B : Prop} (h : 0 < x) (a : A) : gp_b1 .gt x A B := ⟨fun _ => a, fun z => absurd h z⟩
theorem gb1_gt_f {x : Int32} {A B : Prop} (h : ¬ 0 < x) (b : B) : gp_b1 .gt x A B := ⟨fun z => absurd z h, fun _ => b⟩
theorem gb1_gt_t' {x : Int32} {A B : Prop} (h : ¬ x ≤ 0) (a : A) : gp_b1 .gt x A B := gb1_gt_t (Int32.not_le.mp h) a
theorem gb1_gt_f' {x : Int32} {A B : Prop} (h : x ≤ 0) (b : B) : gp_b1 .gt x A B := gb1_gt_f (Int32.not_lt.mpr h) b
theorem gb1_le_t {x : Int32} {A B : Prop} (h : x ≤ 0) (a : A) : gp_b1 .le x A B := ⟨fun _ => a, fun z => absurd h z⟩
theorem gb1_le_f {x : Int32} {A B : Prop} (h : ¬ x ≤ 0) (b : B) : gp_b1 .le x A B := ⟨fun z => absurd z h, fun _ => b⟩
theorem gb1_le_t' {x : Int32} {A B : Prop} (h : ¬ 0 < x) (a : A) : gp_b1 .le x A B := gb1_le_t (Int32.not_lt.mp h) a
theorem gb1_le_f' {x : Int32} {A B : Prop} (h : 0 < x) (b : B) : gp_b1 .le x A B := gb1_le_f (Int32.not_le.mpr h) b
theorem gp_in57 {x : Int32} (h0 : 0 ≤ x) (h1 : x ≤ 5) : vp_in x 7 := by
  have := gp_in_of (n := 5) rfl h0 h1
  rw [vp_in_iff] at this ⊢
  omega
end
section
section
variable {l : Launch} {G : gp_G} {d : Nat} {w : Nat → Nat → Int32} {u : Int64 × (Nat → Int64)} {q : Nat → Nat} {K : Option Value → gp_H → Prop}
/-! ===== the reference's methods: marks ===== -/
set_option maxRecDepth 100000 in
theorem sp_Rf_isIn {V : gp_H} {v a b : Int32} (h1 : a ≤ v → v ≤ b → K (some (.int 1)) V) (h0 : ¬ (a ≤ v ∧ v ≤ b) → K (some (.int 0)) V) : gp_Cal l G d m_Rf_isIn [.int v, .int a, .int b] V K := by
  refine gp_enter od_Rf_isIn rfl ?_
  (repeat refine gp_gc [] od_Rf_isIn rfl rfl ?_)
  refine And.intro (fun c1 => ?_) (fun c1 => ?_)
  · (repeat refine gp_gc [] od_Rf_isIn rfl rfl ?_)
    exact And.intro (Or.inl rfl) (h0 (fun h => absurd c1 (Int32.not_lt.mpr h.1)))
  (repeat refine gp_gc [] od_Rf_isIn rfl rfl ?_)
  refine And.intro (fun c2 => ?_) (fun c2 => ?_)
  · (repeat refine gp_gc [] od_Rf_isIn rfl rfl ?_)
    exact And.intro (Or.inl rfl) (h0 (fun h => absurd c2 (Int32.not_lt.mpr h.2)))
  (repeat refine gp_gc [] od_Rf_isIn rfl rfl ?_)
  exact And.intro (Or.inr rfl) (h1 (Int32.not_lt.mp c1) (Int32.not_lt.mp c2))
set_option maxRecDepth 100000 in
theorem sp_Rf_isMark {m : Int32} (h1 : 0 ≤ m → m ≤ w 95 0 - 1 → K (some (.int 1)) (gv w u q)) (h0 : ¬ (0 ≤ m ∧ m ≤ w 95 0 - 1) → K (some (.int 0)) (gv w u q)) : gp_Cal l G (d + 1) m_Rf_isMark [.ref 95, .int m] (gv w u q) K := by
  refine gp_enter od_Rf_isMark rfl ?_
  (repeat refine gp_gc [] od_Rf_isMark rfl rfl ?_)
  refine sp_Rf_isIn (fun a b => ?_) (fun a => ?_)
  · (repeat refine gp_gc [] od_Rf_isMark rfl rfl ?_)
    exact And.intro (Or.inr rfl) (h1 a b)
  · (repeat refine gp_gc [] od_Rf_isMark rfl rfl ?_)
    exact And.intro (Or.inl rfl) (h0 a)
abbrev gf_okMark (kind thing cost depth senses n : Int32) : Prop := (0 ≤ kind ∧ kind ≤ 6) ∧ (0 ≤ thing ∧ thing ≤ 15) ∧ (1 ≤ cost ∧ cost ≤ 99) ∧ (0 ≤ depth ∧ depth ≤ 999) ∧ (0 ≤ senses ∧ senses ≤ 15) ∧ ¬ n = 16
def gf_Rmark (w : Nat → Nat → Int32) (kind thing cost depth senses : Int32) : Nat → Nat → Int32 :=
  gw (gw (gw (gw (gw (gw (gw (gw w 96 (w 95 0).toNatClampNeg kind) 97 (w 95 0).toNatClampNeg thing) 98 (w 95 0).toNatClampNeg cost) 99 (w 95 0).toNatClampNeg depth) 100 (w 95 0).toNatClampNeg senses) 103 (2 * w 95 0).toNatClampNeg (-1)) 103 (2 * w 95 0 + 1).toNatClampNeg (-1)) 95 0 (w 95 0 + 1)
set_option maxRecDepth 100000 in
theorem sp_Rf_mark {kind thing cost depth senses : Int32} (hn : ¬ w 95 0 = 16 → vp_in (w 95 0) 16 ∧ vp_in (2 * w 95 0) 32 ∧ vp_in (2 * w 95 0 + 1) 32) (h1 : gf_okMark kind thing cost depth senses (w 95 0) → K (some (.int (w 95 0))) (gv (gf_Rmark w kind thing cost depth senses) u q)) (h0 : ¬ gf_okMark kind thing cost depth senses (w 95 0) → K (some (.int (-1))) (gv w u q)) : gp_Cal l G (d + 1) m_Rf_mark [.ref 95, .int kind, .int thing, .int cost, .int depth, .int senses] (gv w u q) K := by
  refine gp_enter od_Rf_mark rfl ?_
  (repeat refine gp_gc [] od_Rf_mark rfl rfl ?_)
  refine sp_Rf_isIn (fun a1 b1 => ?_) (fun n1 => ?_)
  rotate_left
  · (repeat refine gp_gc [] od_Rf_mark rfl rfl ?_)
    refine And.intro (fun c => ?_) (fun c => ?_)
    · (repeat refine gp_gc [] od_Rf_mark rfl rfl ?_)
      exact h0 (fun h => n1 h.1)
    · exact absurd rfl c
  (repeat refine gp_gc [] od_Rf_mark rfl rfl ?_)
  refine And.intro (fun c => ?_) (fun c => ?_)
  · exact absurd c (by decide)
  (repeat refine gp_gc [] od_Rf_mark rfl rfl ?_)
  refine sp_Rf_isIn (fun a2 b2 => ?_) (fun n1 => ?_)
  rotate_left
  · (repeat refine gp_gc [] od_Rf_mark rfl rfl ?_)
    refine And.intro (fun c => ?_) (fun c => ?_)
    · (repeat refine gp_gc [] od_Rf_mark rfl rfl ?_)
      exact h0 (fun h => n1 h.2.1)
    · exact absurd rfl c
  (repeat refine gp_gc [] od_Rf_mark rfl rfl ?_)
  refine And.intro (fun c => ?_) (fun c => ?_)
  · exact absurd c (by decide)
  (repeat refine gp_gc [] od_Rf_mark rfl rfl ?_)
  refine sp_Rf_isIn (fun a3 b3 => ?_) (fun n1 => ?_)
  rotate_left
  · (repeat refine gp_gc [] od_Rf_mark rfl rfl ?_)
    refine And.intro (fun c => ?_) (fun c => ?_)
    · (repeat refine gp_gc [] od_Rf_mark rfl rfl ?_)
      exact h0 (fun h => n1 h.2.2.1)
    · exact absurd rfl c
  (repeat refine gp_gc [] od_Rf_mark rfl rfl ?_)
  refine And.intro (fun c => ?_) (fun c => ?_)
  · exact absurd c (by decide)
  (repeat refine gp_gc [] od_Rf_mark rfl rfl ?_)
  refine sp_Rf_isIn (fun a4 b4 => ?_) (fun n1 => ?_)
  rotate_left
  · (repeat refine gp_gc [] od_Rf_mark rfl rfl ?_)
    refine And.intro (fun c => ?_) (fun c => ?_)
    · (repeat refine gp_gc [] od_Rf_mark rfl rfl ?_)
      exact h0 (fun h => n1 h.2.2.2.1)
    · exact absurd rfl c
  (repeat refine gp_gc [] od_Rf_mark rfl rfl ?_)
  refine And.intro (fun c => ?_) (fun c => ?_)
  · exact absurd c (by decide)
  (repeat refine gp_gc [] od_Rf_mark rfl rfl ?_)
  refine sp_Rf_isIn (fun a5 b5 => ?_) (fun n1 => ?_)
  rotate_left
  · (repeat refine gp_gc [] od_Rf_mark rfl rfl ?_)
    refine And.intro (fun c => ?_) (fun c => ?_)
    · (repeat refine gp_gc [] od_Rf_mark rfl rfl ?_)
      exact h0 (fun h => n1 h.2.2.2.2.1)
    · exact absurd rfl c
  (repeat refine gp_gc [] od_Rf_mark rfl rfl ?_)
  refine And.intro (fun c => ?_) (fun c => ?_)
  · exact absurd c (by decide)
  (repeat refine gp_gc [] od_Rf_mark rfl rfl ?_)
  refine And.intro (fun c6 => ?_) (fun c6 => ?_)
  rotate_left
  · (repeat refine gp_gc [] od_Rf_mark rfl rfl ?_)
    exact h0 (fun h => h.2.2.2.2.2 c6)
  obtain ⟨i1, i2, i3⟩ := hn c6
  (repeat refine gp_gc [] od_Rf_mark rfl rfl ?_)
  refine And.intro i1 ?_
  (repeat refine gp_gc [] od_Rf_mark rfl rfl ?_)
  refine And.intro i1 ?_
  (repeat refine gp_gc [] od_Rf_mark rfl rfl ?_)
  refine And.intro i1 ?_
  (repeat refine gp_gc [] od_Rf_mark rfl rfl ?_)
  refine And.intro i1 ?_
  (repeat refine gp_gc [] od_Rf_mark rfl rfl ?_)
  refine And.intro i1 ?_
  (repeat refine gp_gc [] od_Rf_mark rfl rfl ?_)
  refine And.intro i2 ?_
  (repeat refine gp_gc [] od_Rf_mark rfl rfl ?_)
  refine And.intro i3 ?_
  (repeat refine gp_gc [] od_Rf_mark rfl rfl ?_)
  exact h1 ⟨⟨a1, b1⟩, ⟨a2, b2⟩, ⟨a3, b3⟩, ⟨a4, b4⟩, ⟨a5, b5⟩, c6⟩
set_option maxRecDepth 100000 in
theorem sp_Rf_hard {kind v : Int32} (h1 : 0 ≤ kind ∧ kind ≤ 6 → 0 ≤ v ∧ v ≤ 99 → K (some (.int 1)) (gv (gw w 104 kind.toNatClampNeg v) u q)) (h0 : ¬ ((0 ≤ kind ∧ kind ≤ 6) ∧ (0 ≤ v ∧ v ≤ 99)) → K (some (.int 0)) (gv w u q)) : gp_Cal l G (d + 1) m_Rf_hard [.ref 95, .int kind, .int v] (gv w u q) K := by
  refine gp_enter od_Rf_hard rfl ?_
  (repeat refine gp_gc [] od_Rf_hard rfl rfl ?_)
  refine sp_Rf_isIn (fun a1 b1 => ?_) (fun n1 => ?_)
  rotate_left
  · (repeat refine gp_gc [] od_Rf_hard rfl rfl ?_)
    refine And.intro (fun c => ?_) (fun c => ?_)
    · (repeat refine gp_gc [] od_Rf_hard rfl rfl ?_)
      exact And.intro (Or.inl rfl) (h0 (fun h => n1 h.1))
    · exact absurd rfl c
  (repeat refine gp_gc [] od_Rf_hard rfl rfl ?_)
  refine And.intro (fun c => ?_) (fun c => ?_)
  · exact absurd c (by decide)
  (repeat refine gp_gc [] od_Rf_hard rfl rfl ?_)
  refine sp_Rf_isIn (fun a2 b2 => ?_) (fun n1 => ?_)
  rotate_left
  · (repeat refine gp_gc [] od_Rf_hard rfl rfl ?_)
    refine And.intro (fun c => ?_) (fun c => ?_)
    · exact absurd rfl c
    · (repeat refine gp_gc [] od_Rf_hard rfl rfl ?_)
      exact And.intro (Or.inl rfl) (h0 (fun h => n1 h.2))
  (repeat refine gp_gc [] od_Rf_hard rfl rfl ?_)
  refine And.intro (fun c => ?_) (fun c => ?_)
  · (repeat refine gp_gc [] od_Rf_hard rfl rfl ?_)
    refine And.intro (gp_inK6 a1 b1) ?_
    (repeat refine gp_gc [] od_Rf_hard rfl rfl ?_)
    exact And.intro (Or.inr rfl) (h1 ⟨a1, b1⟩ ⟨a2, b2⟩)
  · exact absurd c (by decide)
set_option maxRecDepth 100000 in
theorem sp_Rf_year {v : Int32} (h1 : 0 ≤ v ∧ v ≤ 999 → K (some (.int 1)) (gv (gw w 95 1 v) u q)) (h0 : ¬ (0 ≤ v ∧ v ≤ 999) → K (some (.int 0)) (gv w u q)) : gp_Cal l G (d + 1) m_Rf_year [.ref 95, .int v] (gv w u q) K := by
  refine gp_enter od_Rf_year rfl ?_
  (repeat refine gp_gc [] od_Rf_year rfl rfl ?_)
  refine sp_Rf_isIn (fun a1 b1 => ?_) (fun n1 => ?_)
  rotate_left
  · (repeat refine gp_gc [] od_Rf_year rfl rfl ?_)
    refine And.intro (fun c => ?_) (fun c => ?_)
    · exact absurd rfl c
    · (repeat refine gp_gc [] od_Rf_year rfl rfl ?_)
      exact And.intro (Or.inl rfl) (h0 n1)
  (repeat refine gp_gc [] od_Rf_year rfl rfl ?_)
  refine And.intro (fun c => ?_) (fun c => ?_)
  · (repeat refine gp_gc [] od_Rf_year rfl rfl ?_)
    exact And.intro (Or.inr rfl) (h1 ⟨a1, b1⟩)
  · exact absurd c (by decide)

end
end
section
section
variable {l : Launch} {G : gp_G} {d : Nat} {w : Nat → Nat → Int32} {u : Int64 × (Nat → Int64)} {q : Nat → Nat} {K : Option Value → gp_H → Prop}
/-! ===== the class's methods: marks ===== -/
theorem gw_ne {w : Nat → Nat → Int32} {a k b : Nat} {x : Int32} (h : b ≠ a) : gw w a k x b = w b := if_neg h
theorem gw_at {w : Nat → Nat → Int32} {a k j : Nat} {x : Int32} : gw w a k x a j = if j = k then x else w a j := by simp [gw, upd]
set_option maxRecDepth 100000 in
theorem sp_Gp_within {V : gp_H} {v a b : Int32} (h1 : a ≤ v → v ≤ b → K (some (.int 1)) V) (h0 : ¬ (a ≤ v ∧ v ≤ b) → K (some (.int 0)) V) : gp_Cal l G d m_Gp_within [.int v, .int a, .int b] V K := by
  refine gp_enter od_Gp_within rfl ?_
  (repeat refine gp_gc [] od_Gp_within rfl rfl ?_)
  refine And.intro (fun c1 => ?_) (fun c1 => ?_)
  · (repeat refine gp_gc [] od_Gp_within rfl rfl ?_)
    exact And.intro (Or.inl rfl) (h0 (fun h => absurd c1 (Int32.not_lt.mpr h.1)))
  (repeat refine gp_gc [] od_Gp_within rfl rfl ?_)
  refine And.intro (fun c2 => ?_) (fun c2 => ?_)
  · (repeat refine gp_gc [] od_Gp_within rfl rfl ?_)
    exact And.intro (Or.inl rfl) (h0 (fun h => absurd c2 (Int32.not_lt.mpr h.2)))
  (repeat refine gp_gc [] od_Gp_within rfl rfl ?_)
  exact And.intro (Or.inr rfl) (h1 (Int32.not_lt.mp c1) (Int32.not_lt.mp c2))
set_option maxRecDepth 100000 in
theorem sp_Gp_hard {kind v : Int32} (h1 : 0 ≤ kind ∧ kind ≤ 6 → 0 ≤ v ∧ v ≤ 99 → K (some (.int 1)) (gv (gw w 3 kind.toNatClampNeg v) u q)) (h0 : ¬ ((0 ≤ kind ∧ kind ≤ 6) ∧ (0 ≤ v ∧ v ≤ 99)) → K (some (.int 0)) (gv w u q)) : gp_Cal l G (d + 1) m_Gp_hard [.ref 0, .int kind, .int v] (gv w u q) K := by
  refine gp_enter od_Gp_hard rfl ?_
  (repeat refine gp_gc [] od_Gp_hard rfl rfl ?_)
  refine sp_Gp_within (fun a1 b1 => ?_) (fun n1 => ?_)
  rotate_left
  · repeat refine gp_gc [] od_Gp_hard rfl rfl ?_
    first | refine And.intro (fun _ => ?_) (fun c => absurd rfl c) | refine And.intro (fun c => absurd rfl c) (fun _ => ?_)
    repeat refine gp_gc [] od_Gp_hard rfl rfl ?_
    exact And.intro (Or.inl rfl) (h0 (fun h => n1 h.1))
  repeat refine gp_gc [] od_Gp_hard rfl rfl ?_
  first | refine And.intro (fun c => absurd c (by decide)) (fun _ => ?_) | refine And.intro (fun _ => ?_) (fun c => absurd c (by decide))
  repeat refine gp_gc [] od_Gp_hard rfl rfl ?_
  refine sp_Gp_within (fun a2 b2 => ?_) (fun n2 => ?_)
  rotate_left
  · repeat refine gp_gc [] od_Gp_hard rfl rfl ?_
    first | refine And.intro (fun _ => ?_) (fun c => absurd rfl c) | refine And.intro (fun c => absurd rfl c) (fun _ => ?_)
    repeat refine gp_gc [] od_Gp_hard rfl rfl ?_
    exact And.intro (Or.inl rfl) (h0 (fun h => n2 h.2))
  repeat refine gp_gc [] od_Gp_hard rfl rfl ?_
  first | refine And.intro (fun c => absurd c (by decide)) (fun _ => ?_) | refine And.intro (fun _ => ?_) (fun c => absurd c (by decide))
  repeat refine gp_gc [] od_Gp_hard rfl rfl ?_
  refine And.intro (gp_inK6 a1 b1) ?_
  (repeat refine gp_gc [] od_Gp_hard rfl rfl ?_)
  exact And.intro (Or.inr rfl) (h1 ⟨a1, b1⟩ ⟨a2, b2⟩)
set_option maxRecDepth 100000 in
theorem sp_Gp_year {v : Int32} (h1 : 0 ≤ v ∧ v ≤ 999 → K (some (.int 1)) (gv (gw w 1 4 v) u q)) (h0 : ¬ (0 ≤ v ∧ v ≤ 999) → K (some (.int 0)) (gv w u q)) : gp_Cal l G (d + 1) m_Gp_year [.ref 0, .int v] (gv w u q) K := by
  refine gp_enter od_Gp_year rfl ?_
  (repeat refine gp_gc [] od_Gp_year rfl rfl ?_)
  refine sp_Gp_within (fun a1 b1 => ?_) (fun n1 => ?_)
  rotate_left
  · repeat refine gp_gc [] od_Gp_year rfl rfl ?_
    first | refine And.intro (fun _ => ?_) (fun c => absurd rfl c) | refine And.intro (fun c => absurd rfl c) (fun _ => ?_)
    repeat refine gp_gc [] od_Gp_year rfl rfl ?_
    exact And.intro (Or.inl rfl) (h0 n1)
  repeat refine gp_gc [] od_Gp_year rfl rfl ?_
  first | refine And.intro (fun c => absurd c (by decide)) (fun _ => ?_) | refine And.intro (fun _ => ?_) (fun c => absurd c (by decide))
  repeat refine gp_gc [] od_Gp_year rfl rfl ?_
  exact And.intro (Or.inr rfl) (h1 ⟨a1, b1⟩)
set_option maxRecDepth 100000 in
theorem sp_Pl_has {m : Int32} (h1 : 0 ≤ m → m < w 1 3 → K (some (.int 1)) (gv w u q)) (h0 : ¬ (0 ≤ m ∧ m < w 1 3) → K (some (.int 0)) (gv w u q)) : gp_Cal l G (d + 0) m_Pl_has [.ref 1, .int m] (gv w u q) K := by
  refine gp_enter od_Pl_has rfl ?_
  (repeat refine gp_gc [] od_Pl_has rfl rfl ?_)
  refine And.intro (fun c1 => ?_) (fun c1 => ?_)
  · (repeat refine gp_gc [] od_Pl_has rfl rfl ?_)
    exact And.intro (Or.inl rfl) (h0 (fun h => absurd c1 (Int32.not_lt.mpr h.1)))
  (repeat refine gp_gc [] od_Pl_has rfl rfl ?_)
  refine And.intro (fun c2 => ?_) (fun c2 => ?_)
  · (repeat refine gp_gc [] od_Pl_has rfl rfl ?_)
    exact And.intro (Or.inl rfl) (h0 (fun h => absurd h.2 (Int32.not_lt.mpr c2)))
  (repeat refine gp_gc [] od_Pl_has rfl rfl ?_)
  exact And.intro (Or.inr rfl) (h1 (Int32.not_lt.mp c1) (Int32.not_le.mp c2))
def gf_Cmark (w : Nat → Nat → Int32) (kind thing cost depth senses : Int32) : Nat → Nat → Int32 :=
  gw (gw (gw (gw (gw (gw w (5 + (w 1 3).toNatClampNeg) 0 kind) (5 + (w 1 3).toNatClampNeg) 1 thing) (5 + (w 1 3).toNatClampNeg) 2 cost) (5 + (w 1 3).toNatClampNeg) 3 depth) (5 + (w 1 3).toNatClampNeg) 4 senses) 1 3 (w 1 3 + 1)
set_option maxRecDepth 100000 in
theorem sp_Gp_mark {kind thing cost depth senses : Int32} (hn : w 1 3 < 16 → vp_in (w 1 3) 16) (h1 : (0 ≤ kind ∧ kind ≤ 6) ∧ (0 ≤ thing ∧ thing ≤ 15) ∧ (1 ≤ cost ∧ cost ≤ 99) ∧ (0 ≤ depth ∧ depth ≤ 999) ∧ (0 ≤ senses ∧ senses ≤ 15) ∧ w 1 3 < 16 → K (some (.int (w 1 3 + 1 - 1))) (gv (gf_Cmark w kind thing cost depth senses) u q)) (h0 : ¬ ((0 ≤ kind ∧ kind ≤ 6) ∧ (0 ≤ thing ∧ thing ≤ 15) ∧ (1 ≤ cost ∧ cost ≤ 99) ∧ (0 ≤ depth ∧ depth ≤ 999) ∧ (0 ≤ senses ∧ senses ≤ 15) ∧ w 1 3 < 16) → K (some (.int (-1))) (gv w u q)) : gp_Cal l G (d + 1) m_Gp_mark [.ref 0, .int kind, .int thing, .int cost, .int depth, .int senses] (gv w u q) K := by
  refine gp_enter od_Gp_mark rfl ?_
  (repeat refine gp_gc [] od_Gp_mark rfl rfl ?_)
  refine sp_Gp_within (fun a1 b1 => ?_) (fun n1 => ?_)
  rotate_left
  · repeat refine gp_gc [] od_Gp_mark rfl rfl ?_
    first | refine And.intro (fun _ => ?_) (fun c => absurd rfl c) | refine And.intro (fun c => absurd rfl c) (fun _ => ?_)
    repeat refine gp_gc [] od_Gp_mark rfl rfl ?_
    ((first | refine And.intro (fun c => absurd c (by decide)) (fun _ => ?_) | refine And.intro (fun _ => ?_) (fun c => absurd c (by decide))); (repeat refine gp_gc [] od_Gp_mark rfl rfl ?_); exact h0 (fun h => n1 h.1))
  repeat refine gp_gc [] od_Gp_mark rfl rfl ?_
  first | refine And.intro (fun c => absurd c (by decide)) (fun _ => ?_) | refine And.intro (fun _ => ?_) (fun c => absurd c (by decide))
  repeat refine gp_gc [] od_Gp_mark rfl rfl ?_
  refine sp_Gp_within (fun a2 b2 => ?_) (fun n1 => ?_)
  rotate_left
  · repeat refine gp_gc [] od_Gp_mark rfl rfl ?_
    first | refine And.intro (fun _ => ?_) (fun c => absurd rfl c) | refine And.intro (fun c => absurd rfl c) (fun _ => ?_)
    repeat refine gp_gc [] od_Gp_mark rfl rfl ?_
    ((first | refine And.intro (fun c => absurd c (by decide)) (fun _ => ?_) | refine And.intro (fun _ => ?_) (fun c => absurd c (by decide))); (repeat refine gp_gc [] od_Gp_mark rfl rfl ?_); exact h0 (fun h => n1 h.2.1))
  repeat refine gp_gc [] od_Gp_mark rfl rfl ?_
  first | refine And.intro (fun c => absurd c (by decide)) (fun _ => ?_) | refine And.intro (fun _ => ?_) (fun c => absurd c (by decide))
  repeat refine gp_gc [] od_Gp_mark rfl rfl ?_
  refine sp_Gp_within (fun a3 b3 => ?_) (fun n1 => ?_)
  rotate_left
  · repeat refine gp_gc [] od_Gp_mark rfl rfl ?_
    first | refine And.intro (fun _ => ?_) (fun c => absurd rfl c) | refine And.intro (fun c => absurd rfl c) (fun _ => ?_)
    repeat refine gp_gc [] od_Gp_mark rfl rfl ?_
    ((first | refine And.intro (fun c => absurd c (by decide)) (fun _ => ?_) | refine And.intro (fun _ => ?_) (fun c => absurd c (by decide))); (repeat refine gp_gc [] od_Gp_mark rfl rfl ?_); exact h0 (fun h => n1 h.2.2.1))
  repeat refine gp_gc [] od_Gp_mark rfl rfl ?_
  first | refine And.intro (fun c => absurd c (by decide)) (fun _ => ?_) | refine And.intro (fun _ => ?_) (fun c => absurd c (by decide))
  repeat refine gp_gc [] od_Gp_mark rfl rfl ?_
  refine sp_Gp_within (fun a4 b4 => ?_) (fun n1 => ?_)
  rotate_left
  · repeat refine gp_gc [] od_Gp_mark rfl rfl ?_
    first | refine And.intro (fun _ => ?_) (fun c => absurd rfl c) | refine And.intro (fun c => absurd rfl c) (fun _ => ?_)
    repeat refine gp_gc [] od_Gp_mark rfl rfl ?_
    ((first | refine And.intro (fun c => absurd c (by decide)) (fun _ => ?_) | refine And.intro (fun _ => ?_) (fun c => absurd c (by decide))); (repeat refine gp_gc [] od_Gp_mark rfl rfl ?_); exact h0 (fun h => n1 h.2.2.2.1))
  repeat refine gp_gc [] od_Gp_mark rfl rfl ?_
  first | refine And.intro (fun c => absurd c (by decide)) (fun _ => ?_) | refine And.intro (fun _ => ?_) (fun c => absurd c (by decide))
  repeat refine gp_gc [] od_Gp_mark rfl rfl ?_
  refine sp_Gp_within (fun a5 b5 => ?_) (fun n1 => ?_)
  rotate_left
  · repeat refine gp_gc [] od_Gp_mark rfl rfl ?_
    first | refine And.intro (fun _ => ?_) (fun c => absurd rfl c) | refine And.intro (fun c => absurd rfl c) (fun _ => ?_)
    repeat refine gp_gc [] od_Gp_mark rfl rfl ?_
    ((first | refine And.intro (fun c => absurd c (by decide)) (fun _ => ?_) | refine And.intro (fun _ => ?_) (fun c => absurd c (by decide))); (repeat refine gp_gc [] od_Gp_mark rfl rfl ?_); exact h0 (fun h => n1 h.2.2.2.2.1))
  repeat refine gp_gc [] od_Gp_mark rfl rfl ?_
  first | refine And.intro (fun c => absurd c (by decide)) (fun _ => ?_) | refine And.intro (fun _ => ?_) (fun c => absurd c (by decide))
  repeat refine gp_gc [] od_Gp_mark rfl rfl ?_
  (first | refine And.intro (fun c => absurd c (by decide)) (fun _ => ?_) | refine And.intro (fun _ => ?_) (fun c => absurd c (by decide)))
  (repeat refine gp_gc [] od_Gp_mark rfl rfl ?_)
  refine And.intro (fun c6 => ?_) (fun c6 => ?_)
  rotate_left
  · (repeat refine gp_gc [] od_Gp_mark rfl rfl ?_)
    exact h0 (fun h => c6 h.2.2.2.2.2)
  have i1 := hn c6
  have hi : (w 1 3).toNatClampNeg < 16 := Nat.not_le.mp fun z => i1 (Or.inr z)
  (repeat refine gp_gc [] od_Gp_mark rfl rfl ?_)
  refine And.intro i1 ⟨_, rfl, ?_⟩
  (repeat refine gp_gc [] od_Gp_mark rfl rfl ?_)
  refine gs_put (gv_mark hi) rfl rfl ?_
  rw [gv_mark_set hi (by decide)]
  (repeat refine gp_gc [] od_Gp_mark rfl rfl ?_)
  refine gs_put (gv_mark hi) rfl rfl ?_
  rw [gv_mark_set hi (by decide)]
  (repeat refine gp_gc [] od_Gp_mark rfl rfl ?_)
  refine gs_put (gv_mark hi) rfl rfl ?_
  rw [gv_mark_set hi (by decide)]
  (repeat refine gp_gc [] od_Gp_mark rfl rfl ?_)
  refine gs_put (gv_mark hi) rfl rfl ?_
  rw [gv_mark_set hi (by decide)]
  (repeat refine gp_gc [] od_Gp_mark rfl rfl ?_)
  refine gs_put (gv_mark hi) rfl rfl ?_
  rw [gv_mark_set hi (by decide)]
  obtain ⟨w5, hw5⟩ : ∃ w5, w5 = gw (gw (gw (gw (gw w (5 + (w 1 3).toNatClampNeg) 0 kind) (5 + (w 1 3).toNatClampNeg) 1 thing) (5 + (w 1 3).toNatClampNeg) 2 cost) (5 + (w 1 3).toNatClampNeg) 3 depth) (5 + (w 1 3).toNatClampNeg) 4 senses := ⟨_, rfl⟩
  have e5 : w5 1 = w 1 := by
    have hne : (1 : Nat) ≠ 5 + (w 1 3).toNatClampNeg := by omega
    rw [hw5, gw_ne hne, gw_ne hne, gw_ne hne, gw_ne hne, gw_ne hne]
  have h2 := h1 ⟨⟨a1, b1⟩, ⟨a2, b2⟩, ⟨a3, b3⟩, ⟨a4, b4⟩, ⟨a5, b5⟩, c6⟩
  unfold gf_Cmark at h2
  rw [← hw5, ← e5] at h2
  rw [← hw5]
  clear hw5
  (repeat refine gp_gc [] od_Gp_mark rfl rfl ?_)
  exact h2

end
end
section
section
variable {l : Launch} {G : gp_G} {d : Nat} {w : Nat → Nat → Int32} {u : Int64 × (Nat → Int64)} {q : Nat → Nat} {K : Option Value → gp_H → Prop}
/-! ===== the reference's methods: what marks are ===== -/
def gf_depth (w : Nat → Nat → Int32) (m : Int32) : Int32 := if 999 < (if m = w 95 13 then w 99 m.toNatClampNeg + 100 else w 99 m.toNatClampNeg) then 999 else (if m = w 95 13 then w 99 m.toNatClampNeg + 100 else w 99 m.toNatClampNeg)
def gf_left (w : Nat → Nat → Int32) (m y : Int32) : Int32 := gf_depth w m - y * w 104 (w 96 m.toNatClampNeg).toNatClampNeg
set_option maxRecDepth 100000 in
theorem sp_Rf_depth {m : Int32} (i1 : vp_in m 16) (h : K (some (.int (gf_depth w m))) (gv w u q)) : gp_Cal l G (d + 0) m_Rf_depth [.ref 95, .int m] (gv w u q) K := by
  refine gp_enter od_Rf_depth rfl ?_
  unfold gf_depth at h
  by_cases c : m = w 95 13
  · rw [if_pos c] at h
    by_cases c2 : 999 < w 99 m.toNatClampNeg + 100
    · rw [if_pos c2] at h
      (repeat refine gp_gc [] od_Rf_depth rfl rfl ?_)
      refine gb_ne_f c ?_
      (repeat refine gp_gc [] od_Rf_depth rfl rfl ?_)
      refine And.intro i1 ?_
      (repeat refine gp_gc [] od_Rf_depth rfl rfl ?_)
      refine gb_le_f' c2 ?_
      (repeat refine gp_gc [] od_Rf_depth rfl rfl ?_)
      exact h
    · rw [if_neg c2] at h
      (repeat refine gp_gc [] od_Rf_depth rfl rfl ?_)
      refine gb_ne_f c ?_
      (repeat refine gp_gc [] od_Rf_depth rfl rfl ?_)
      refine And.intro i1 ?_
      (repeat refine gp_gc [] od_Rf_depth rfl rfl ?_)
      refine gb_le_t' c2 ?_
      (repeat refine gp_gc [] od_Rf_depth rfl rfl ?_)
      exact h
  · rw [if_neg c] at h
    by_cases c2 : 999 < w 99 m.toNatClampNeg
    · rw [if_pos c2] at h
      (repeat refine gp_gc [] od_Rf_depth rfl rfl ?_)
      refine gb_ne_t c ?_
      (repeat refine gp_gc [] od_Rf_depth rfl rfl ?_)
      refine And.intro i1 ?_
      (repeat refine gp_gc [] od_Rf_depth rfl rfl ?_)
      refine gb_le_f' c2 ?_
      (repeat refine gp_gc [] od_Rf_depth rfl rfl ?_)
      exact h
    · rw [if_neg c2] at h
      (repeat refine gp_gc [] od_Rf_depth rfl rfl ?_)
      refine gb_ne_t c ?_
      (repeat refine gp_gc [] od_Rf_depth rfl rfl ?_)
      refine And.intro i1 ?_
      (repeat refine gp_gc [] od_Rf_depth rfl rfl ?_)
      refine gb_le_t' c2 ?_
      (repeat refine gp_gc [] od_Rf_depth rfl rfl ?_)
      exact h
set_option maxRecDepth 100000 in
theorem sp_Rf_left {m y : Int32} (i1 : vp_in m 16) (i2 : vp_in (w 96 m.toNatClampNeg) 7) (h : K (some (.int (gf_left w m y))) (gv w u q)) : gp_Cal l G (d + 1) m_Rf_left [.ref 95, .int m, .int y] (gv w u q) K := by
  refine gp_enter od_Rf_left rfl ?_
  (repeat refine gp_gc [] od_Rf_left rfl rfl ?_)
  refine sp_Rf_depth (d := d) i1 ?_
  (repeat refine gp_gc [] od_Rf_left rfl rfl ?_)
  refine And.intro i1 ?_
  (repeat refine gp_gc [] od_Rf_left rfl rfl ?_)
  refine And.intro i2 ?_
  (repeat refine gp_gc [] od_Rf_left rfl rfl ?_)
  exact h
set_option maxRecDepth 100000 in
theorem sp_Rf_isWorn {m : Int32} (i1 : vp_in m 16) (i2 : vp_in (w 96 m.toNatClampNeg) 7) (h1 : 0 < gf_left w m (w 95 1) → gf_left w m (w 95 1) < gf_depth w m / 2 → K (some (.int 1)) (gv w u q)) (h0 : ¬ (0 < gf_left w m (w 95 1) ∧ gf_left w m (w 95 1) < gf_depth w m / 2) → K (some (.int 0)) (gv w u q)) : gp_Cal l G (d + 2) m_Rf_isWorn [.ref 95, .int m] (gv w u q) K := by
  refine gp_enter od_Rf_isWorn rfl ?_
  (repeat refine gp_gc [] od_Rf_isWorn rfl rfl ?_)
  refine sp_Rf_left (d := d) i1 i2 ?_
  (repeat refine gp_gc [] od_Rf_isWorn rfl rfl ?_)
  refine And.intro (fun c => ?_) (fun c => ?_)
  · (repeat refine gp_gc [] od_Rf_isWorn rfl rfl ?_)
    exact And.intro (Or.inl rfl) (h0 (fun h => absurd h.1 (Int32.not_lt.mpr c)))
  (repeat refine gp_gc [] od_Rf_isWorn rfl rfl ?_)
  refine sp_Rf_left (d := d) i1 i2 ?_
  (repeat refine gp_gc [] od_Rf_isWorn rfl rfl ?_)
  refine sp_Rf_depth (d := d + 1) i1 ?_
  (repeat refine gp_gc [] od_Rf_isWorn rfl rfl ?_)
  refine And.intro (by decide) ?_
  (repeat refine gp_gc [] od_Rf_isWorn rfl rfl ?_)
  refine And.intro (fun c2 => ?_) (fun c2 => ?_)
  · (repeat refine gp_gc [] od_Rf_isWorn rfl rfl ?_)
    exact And.intro (Or.inl rfl) (h0 (fun h => absurd h.2 (Int32.not_lt.mpr c2)))
  · (repeat refine gp_gc [] od_Rf_isWorn rfl rfl ?_)
    exact And.intro (Or.inr rfl) (h1 (Int32.not_le.mp c) (Int32.not_le.mp c2))
set_option maxRecDepth 100000 in
theorem sp_Rf_canSee {k m y : Int32} (i0 : vp_in k 7) (i1 : vp_in m 16) (i2 : vp_in (w 96 m.toNatClampNeg) 7) (h1 : w 100 m.toNatClampNeg &&& (w 107 k.toNatClampNeg ^^^ -1) = 0 → 0 < gf_left w m y → K (some (.int 1)) (gv w u q)) (h0 : ¬ (w 100 m.toNatClampNeg &&& (w 107 k.toNatClampNeg ^^^ -1) = 0 ∧ 0 < gf_left w m y) → K (some (.int 0)) (gv w u q)) : gp_Cal l G (d + 2) m_Rf_canSee [.ref 95, .int k, .int m, .int y] (gv w u q) K := by
  refine gp_enter od_Rf_canSee rfl ?_
  (repeat refine gp_gc [] od_Rf_canSee rfl rfl ?_)
  refine And.intro i1 ?_
  (repeat refine gp_gc [] od_Rf_canSee rfl rfl ?_)
  refine And.intro i0 ?_
  (repeat refine gp_gc [] od_Rf_canSee rfl rfl ?_)
  refine And.intro (fun c => ?_) (fun c => ?_)
  · (repeat refine gp_gc [] od_Rf_canSee rfl rfl ?_)
    exact And.intro (Or.inl rfl) (h0 (fun h => c h.1))
  (repeat refine gp_gc [] od_Rf_canSee rfl rfl ?_)
  refine sp_Rf_left (d := d) i1 i2 ?_
  (repeat refine gp_gc [] od_Rf_canSee rfl rfl ?_)
  refine And.intro (fun c2 => ?_) (fun c2 => ?_)
  · (repeat refine gp_gc [] od_Rf_canSee rfl rfl ?_)
    exact And.intro (Or.inl rfl) (h0 (fun h => absurd h.2 (Int32.not_lt.mpr c2)))
  · (repeat refine gp_gc [] od_Rf_canSee rfl rfl ?_)
    exact And.intro (Or.inr rfl) (h1 c (Int32.not_le.mp c2))
set_option maxRecDepth 100000 in
theorem sp_Rf_isMind {k : Int32} (h1 : 0 ≤ k → k ≤ 5 → K (some (.int 1)) (gv w u q)) (h0 : ¬ (0 ≤ k ∧ k ≤ 5) → K (some (.int 0)) (gv w u q)) : gp_Cal l G (d + 1) m_Rf_isMind [.ref 95, .int k] (gv w u q) K := by
  refine gp_enter od_Rf_isMind rfl ?_
  (repeat refine gp_gc [] od_Rf_isMind rfl rfl ?_)
  refine sp_Rf_isIn (fun a b => ?_) (fun a => ?_)
  · (repeat refine gp_gc [] od_Rf_isMind rfl rfl ?_)
    exact And.intro (Or.inr rfl) (h1 a b)
  · (repeat refine gp_gc [] od_Rf_isMind rfl rfl ?_)
    exact And.intro (Or.inl rfl) (h0 a)
set_option maxRecDepth 100000 in
theorem sp_Rf_isBeat {m : Int32} (h1 : 0 ≤ m → m ≤ w 95 57 - 1 → K (some (.int 1)) (gv w u q)) (h0 : ¬ (0 ≤ m ∧ m ≤ w 95 57 - 1) → K (some (.int 0)) (gv w u q)) : gp_Cal l G (d + 1) m_Rf_isBeat [.ref 95, .int m] (gv w u q) K := by
  refine gp_enter od_Rf_isBeat rfl ?_
  (repeat refine gp_gc [] od_Rf_isBeat rfl rfl ?_)
  refine sp_Rf_isIn (fun a b => ?_) (fun a => ?_)
  · (repeat refine gp_gc [] od_Rf_isBeat rfl rfl ?_)
    exact And.intro (Or.inr rfl) (h1 a b)
  · (repeat refine gp_gc [] od_Rf_isBeat rfl rfl ?_)
    exact And.intro (Or.inl rfl) (h0 a)
set_option maxRecDepth 100000 in
theorem sp_Rf_allMarks (h : K (some (.int (1 <<< (w 95 0 &&& 31) - 1))) (gv w u q)) : gp_Cal l G (d + 0) m_Rf_allMarks [.ref 95] (gv w u q) K := by
  refine gp_enter od_Rf_allMarks rfl ?_
  (repeat refine gp_gc [] od_Rf_allMarks rfl rfl ?_)
  exact h
set_option maxRecDepth 100000 in
theorem sp_Rf_fault {what : Int32} (h : K (some (.int (if what = 0 then w 95 40 else if what = 1 then w 95 42 else -1))) (gv w u q)) : gp_Cal l G (d + 0) m_Rf_fault [.ref 95, .int what] (gv w u q) K := by
  refine gp_enter od_Rf_fault rfl ?_
  by_cases c : what = 0
  · rw [if_pos c] at h
    (repeat refine gp_gc [] od_Rf_fault rfl rfl ?_)
    refine gb1_ne_f c ?_
    (repeat refine gp_gc [] od_Rf_fault rfl rfl ?_)
    exact h
  · rw [if_neg c] at h
    by_cases c2 : what = 1
    · rw [if_pos c2] at h
      (repeat refine gp_gc [] od_Rf_fault rfl rfl ?_)
      refine gb1_ne_t c ?_
      (repeat refine gp_gc [] od_Rf_fault rfl rfl ?_)
      refine gb_ne_f c2 ?_
      (repeat refine gp_gc [] od_Rf_fault rfl rfl ?_)
      exact h
    · rw [if_neg c2] at h
      (repeat refine gp_gc [] od_Rf_fault rfl rfl ?_)
      refine gb1_ne_t c ?_
      (repeat refine gp_gc [] od_Rf_fault rfl rfl ?_)
      refine gb_ne_t c2 ?_
      (repeat refine gp_gc [] od_Rf_fault rfl rfl ?_)
      exact h
def gf_look (w : Nat → Nat → Int32) (what : Int32) (a b c e f g : Int32) : Int32 := if what = 0 then a else if what = 1 then b else if what = 2 then c else if what = 3 then e else if what = 4 then f else if what = 5 then g else -1
set_option maxRecDepth 100000 in
theorem sp_Rf_look {what : Int32} (h : K (some (.int (gf_look w what (w 95 0) (w 95 2) (w 95 50) (w 95 57) (w 95 65) (w 95 1)))) (gv w u q)) : gp_Cal l G (d + 0) m_Rf_look [.ref 95, .int what] (gv w u q) K := by
  refine gp_enter od_Rf_look rfl ?_
  (repeat refine gp_gc [] od_Rf_look rfl rfl ?_)
  refine And.intro (fun c => ?_) (And.intro (by decide) (And.intro (fun c => ?_) (And.intro (fun c => ?_) (And.intro (fun c => ?_) (And.intro (fun c => ?_) (And.intro (fun c => ?_) (And.intro (fun c => ?_) trivial)))))))
  · (repeat refine gp_gc [] od_Rf_look rfl rfl ?_)
    have hn : ∀ k : Int32, 0 ≤ k.toInt → k.toInt ≤ 5 → ¬ what = k := fun k h1 h2 e => by subst e; rcases c with c | c <;> omega
    unfold gf_look at h
    rw [if_neg (hn 0 (by decide) (by decide)), if_neg (hn 1 (by decide) (by decide)), if_neg (hn 2 (by decide) (by decide)), if_neg (hn 3 (by decide) (by decide)), if_neg (hn 4 (by decide) (by decide)), if_neg (hn 5 (by decide) (by decide))] at h
    exact h
  · have e : what = 0 := Int32.toInt_inj.mp (by rw [c]; rfl)
    subst e
    (repeat refine gp_gc [] od_Rf_look rfl rfl ?_)
    exact h
  · have e : what = 1 := Int32.toInt_inj.mp (by rw [c]; rfl)
    subst e
    (repeat refine gp_gc [] od_Rf_look rfl rfl ?_)
    exact h
  · have e : what = 2 := Int32.toInt_inj.mp (by rw [c]; rfl)
    subst e
    (repeat refine gp_gc [] od_Rf_look rfl rfl ?_)
    exact h
  · have e : what = 3 := Int32.toInt_inj.mp (by rw [c]; rfl)
    subst e
    (repeat refine gp_gc [] od_Rf_look rfl rfl ?_)
    exact h
  · have e : what = 4 := Int32.toInt_inj.mp (by rw [c]; rfl)
    subst e
    (repeat refine gp_gc [] od_Rf_look rfl rfl ?_)
    exact h
  · have e : what = 5 := Int32.toInt_inj.mp (by rw [c]; rfl)
    subst e
    (repeat refine gp_gc [] od_Rf_look rfl rfl ?_)
    exact h
/-- what is longest behind the marks that are needed -/
def gf_chS (nd : Int32) (T : Nat → Int32) (k : Nat) (n : Int32) : Int32 := if n < (if (nd >>> (nI k &&& 31)) &&& 1 = 1 then T k else 0) then (if (nd >>> (nI k &&& 31)) &&& 1 = 1 then T k else 0) else n
def gf_chV (nd : Int32) (T : Nat → Int32) (m : Nat) : Int32 := gp_it (gf_chS nd T) 0 m 0 + 1
set_option maxRecDepth 100000 in
theorem sp_Rf_chain {m : Int32} {i : Nat} (em : m = nI i) (hi : i < 16) (h : K (some (.int (gf_chV (w 101 i) (w 106) i))) (gv w u q)) : gp_Cal l G (d + 0) m_Rf_chain [.ref 95, .int m] (gv w u q) K := by
  refine gp_enter od_Rf_chain rfl ?_
  have i1 : vp_in m 16 := by rw [em]; exact vp_in_nI hi (by decide)
  have ec : m.toNatClampNeg = i := gp_clamp em (by omega)
  (repeat refine gp_gc [4] od_Rf_chain rfl rfl ?_)
  refine gp_iter (P := fun j n => ∀ x, x = nI j → gp_Go l G d m_Rf_chain K 4 [some (.ref 95), some (.int m), some (.int n), some (.int x), none] [] (gv w u q) 0 0) (gf_chS (w 101 i) (w 106)) i ?_ i 0 0 (by omega) ?_ 0 rfl
  · intro j n hj hp x ex
    have i2 : vp_in x 16 := by rw [ex]; exact vp_in_nI (by omega) (by decide)
    have ex2 : x.toNatClampNeg = j := gp_clamp ex (by omega)
    have hp := hp _ (gp_inc ex)
    unfold gf_chS at hp
    rw [← ex] at hp
    have c : ¬ m ≤ x := by rw [ex, em]; exact nI_ge hj (by omega)
    refine gp_go od_Rf_chain rfl ?_
    (repeat refine gp_gc [4] od_Rf_chain rfl rfl ?_)
    refine gb_ge_f c ?_
    (repeat refine gp_gc [4] od_Rf_chain rfl rfl ?_)
    refine And.intro i1 ?_
    (repeat refine gp_gc [4] od_Rf_chain rfl rfl ?_)
    rw [ec]
    by_cases c2 : (w 101 i >>> (x &&& 31)) &&& 1 = 1
    · rw [if_pos c2] at hp
      refine gb_ne_f c2 ?_
      (repeat refine gp_gc [4] od_Rf_chain rfl rfl ?_)
      refine And.intro i2 ?_
      (repeat refine gp_gc [4] od_Rf_chain rfl rfl ?_)
      rw [ex2]
      by_cases c3 : n < w 106 j
      · rw [if_pos c3] at hp
        refine gb_le_f' c3 ?_
        (repeat refine gp_gc [4] od_Rf_chain rfl rfl ?_)
        refine gp_drop 4 ?_
        exact hp
      · rw [if_neg c3] at hp
        refine gb_le_t' c3 ?_
        (repeat refine gp_gc [4] od_Rf_chain rfl rfl ?_)
        refine gp_drop 4 ?_
        exact hp
    · rw [if_neg c2] at hp
      refine gb_ne_t c2 ?_
      (repeat refine gp_gc [4] od_Rf_chain rfl rfl ?_)
      by_cases c3 : n < 0
      · rw [if_pos c3] at hp
        refine gb_le_f' c3 ?_
        (repeat refine gp_gc [4] od_Rf_chain rfl rfl ?_)
        refine gp_drop 4 ?_
        exact hp
      · rw [if_neg c3] at hp
        refine gb_le_t' c3 ?_
        (repeat refine gp_gc [4] od_Rf_chain rfl rfl ?_)
        refine gp_drop 4 ?_
        exact hp
  · intro x ex
    refine gp_go od_Rf_chain rfl ?_
    (repeat refine gp_gc [4] od_Rf_chain rfl rfl ?_)
    refine And.intro (fun c => ?_) (fun c => ?_)
    · (repeat refine gp_gc [4] od_Rf_chain rfl rfl ?_)
      exact h
    · rw [ex, em] at c
      exact absurd (Int32.le_refl _) c

end
end
section
section
variable {l : Launch} {G : gp_G} {d : Nat} {w : Nat → Nat → Int32} {u : Int64 × (Nat → Int64)} {q : Nat → Nat} {K : Option Value → gp_H → Prop}
/-! ===== the reference's methods: sets of marks ===== -/
/-- the marks are some n, and each has a kind -/
def gf_ok (w : Nat → Nat → Int32) (n : Nat) : Prop := w 95 0 = nI n ∧ n ≤ 16 ∧ ∀ i, i < n → vp_in (w 96 i) 7
theorem gf_i1 {w : Nat → Nat → Int32} {n i : Nat} (h : gf_ok w n) (hi : i < n) : vp_in (nI i) 16 := vp_in_nI (by have := h.2.1; omega) (by decide)
theorem gf_c {n i : Nat} (h : n ≤ 16) (hi : i < n) : (nI i).toNatClampNeg = i := nI_clamp (by omega)
abbrev gf_tC (w : Nat → Nat → Int32) (k set y : Int32) (i : Nat) (r : Int32) : Prop := ¬ (set >>> (nI i &&& 31)) &&& 1 = 0 ∧ (w 100 i &&& (w 107 k.toNatClampNeg ^^^ -1) = 0 ∧ 0 < gf_left w (nI i) y) ∧ w 101 i &&& (r ^^^ -1) = 0 ∧ w 102 i &&& (w 108 k.toNatClampNeg ^^^ -1) = 0
def gf_tS (w : Nat → Nat → Int32) (k set y : Int32) (i : Nat) (s : Int32 × Int32) : Int32 × Int32 := if gf_tC w k set y i s.1 then (s.1 ||| 1 <<< (nI i &&& 31), s.2 ||| 1 <<< (w 97 i &&& 31)) else s
theorem gf_tS_y {w : Nat → Nat → Int32} {k set y : Int32} {i : Nat} {s : Int32 × Int32} (h : gf_tC w k set y i s.1) : gf_tS w k set y i s = (s.1 ||| 1 <<< (nI i &&& 31), s.2 ||| 1 <<< (w 97 i &&& 31)) := if_pos h
theorem gf_tS_n {w : Nat → Nat → Int32} {k set y : Int32} {i : Nat} {s : Int32 × Int32} (h : ¬ gf_tC w k set y i s.1) : gf_tS w k set y i s = s := if_neg h
def gf_told (w : Nat → Nat → Int32) (k set y : Int32) (n : Nat) : Int32 := (gp_it (gf_tS w k set y) 0 n (0, 0)).2
set_option maxRecDepth 100000 in
theorem sp_Rf_toldBy {k set y : Int32} {n : Nat} (ok : gf_ok w n) (i0 : vp_in k 7) (h : K (some (.int (gf_told w k set y n))) (gv w u q)) : gp_Cal l G (d + 3) m_Rf_toldBy [.ref 95, .int k, .int set, .int y] (gv w u q) K := by
  refine gp_enter od_Rf_toldBy rfl ?_
  (repeat refine gp_gc [9] od_Rf_toldBy rfl rfl ?_)
  refine gp_iter (P := fun j s => ∀ x, x = nI j → gp_Go l G (d + 3) m_Rf_toldBy K 9 [some (.ref 95), some (.int k), some (.int set), some (.int y), some (.int s.1), some (.int s.2), some (.int x)] [] (gv w u q) 0 0) (gf_tS w k set y) n ?_ n 0 (0, 0) (by omega) ?_ 0 rfl
  · intro j s hj hp x ex
    subst ex
    have i1 := gf_i1 ok hj
    have ec := gf_c ok.2.1 hj
    have i2 := ok.2.2 j hj
    have hp := hp _ (gp_inc rfl)
    have c : ¬ w 95 0 ≤ nI j := by rw [ok.1]; exact nI_ge hj (by have := ok.2.1; omega)
    refine gp_go od_Rf_toldBy rfl ?_
    (repeat refine gp_gc [9] od_Rf_toldBy rfl rfl ?_)
    refine gb_ge_f c ?_
    (repeat refine gp_gc [9] od_Rf_toldBy rfl rfl ?_)
    by_cases b1 : (set >>> (nI j &&& 31)) &&& 1 = 0
    · rw [gf_tS_n (fun z => z.1 b1)] at hp
      refine gb1_eq_t b1 ?_
      (repeat refine gp_gc [9] od_Rf_toldBy rfl rfl ?_)
      exact hp
    refine gb1_eq_f b1 ?_
    (repeat refine gp_gc [9] od_Rf_toldBy rfl rfl ?_)
    refine sp_Rf_canSee (d := d) i0 i1 (by rw [ec]; exact i2) (fun b2 b3 => ?_) (fun b2 => ?_)
    rotate_left
    · rw [ec] at b2
      rw [gf_tS_n (fun z => b2 z.2.1)] at hp
      (repeat refine gp_gc [9] od_Rf_toldBy rfl rfl ?_)
      refine gb1_eq_t rfl ?_
      (repeat refine gp_gc [9] od_Rf_toldBy rfl rfl ?_)
      exact hp
    rw [ec] at b2
    (repeat refine gp_gc [9] od_Rf_toldBy rfl rfl ?_)
    refine gb1_eq_f (by decide) ?_
    (repeat refine gp_gc [9] od_Rf_toldBy rfl rfl ?_)
    refine And.intro i1 ?_
    (repeat refine gp_gc [9] od_Rf_toldBy rfl rfl ?_)
    rw [ec]
    by_cases b4 : w 101 j &&& (s.1 ^^^ -1) = 0
    rotate_left
    · rw [gf_tS_n (fun z => b4 z.2.2.1)] at hp
      refine gb1_ne_t b4 ?_
      (repeat refine gp_gc [9] od_Rf_toldBy rfl rfl ?_)
      exact hp
    refine gb1_ne_f b4 ?_
    (repeat refine gp_gc [9] od_Rf_toldBy rfl rfl ?_)
    refine And.intro i1 ?_
    (repeat refine gp_gc [9] od_Rf_toldBy rfl rfl ?_)
    refine And.intro i0 ?_
    (repeat refine gp_gc [9] od_Rf_toldBy rfl rfl ?_)
    rw [ec]
    by_cases b5 : w 102 j &&& (w 108 k.toNatClampNeg ^^^ -1) = 0
    rotate_left
    · rw [gf_tS_n (fun z => b5 z.2.2.2)] at hp
      refine gb1_eq_f b5 ?_
      (repeat refine gp_gc [9] od_Rf_toldBy rfl rfl ?_)
      exact hp
    refine gb1_eq_t b5 ?_
    rw [gf_tS_y ⟨b1, ⟨b2, b3⟩, b4, b5⟩] at hp
    (repeat refine gp_gc [9] od_Rf_toldBy rfl rfl ?_)
    refine And.intro i1 ?_
    (repeat refine gp_gc [9] od_Rf_toldBy rfl rfl ?_)
    rw [ec]
    exact hp
  · intro x ex
    subst ex
    refine gp_go od_Rf_toldBy rfl ?_
    (repeat refine gp_gc [9] od_Rf_toldBy rfl rfl ?_)
    refine gb_ge_t (by rw [ok.1]; exact Int32.le_refl _) ?_
    (repeat refine gp_gc [9] od_Rf_toldBy rfl rfl ?_)
    exact h
set_option maxRecDepth 100000 in
theorem sp_Rf_told {k set : Int32} {n : Nat} (ok : gf_ok w n) (h1 : 0 ≤ k ∧ k ≤ 5 → 0 ≤ set ∧ set ≤ 65535 → K (some (.int (gf_told w k set (w 95 1) n))) (gv w u q)) (h0 : ¬ ((0 ≤ k ∧ k ≤ 5) ∧ 0 ≤ set ∧ set ≤ 65535) → K (some (.int (-1))) (gv w u q)) : gp_Cal l G (d + 4) m_Rf_told [.ref 95, .int k, .int set] (gv w u q) K := by
  refine gp_enter od_Rf_told rfl ?_
  (repeat refine gp_gc [] od_Rf_told rfl rfl ?_)
  refine sp_Rf_isMind (fun a1 b1 => ?_) (fun n1 => ?_)
  rotate_left
  · repeat refine gp_gc [] od_Rf_told rfl rfl ?_
    first | refine And.intro (fun _ => ?_) (fun c => absurd rfl c) | refine And.intro (fun c => absurd rfl c) (fun _ => ?_)
    repeat refine gp_gc [] od_Rf_told rfl rfl ?_
    exact h0 (fun z => n1 z.1)
  repeat refine gp_gc [] od_Rf_told rfl rfl ?_
  first | refine And.intro (fun c => absurd c (by decide)) (fun _ => ?_) | refine And.intro (fun _ => ?_) (fun c => absurd c (by decide))
  repeat refine gp_gc [] od_Rf_told rfl rfl ?_
  refine sp_Rf_isIn (fun a2 b2 => ?_) (fun n2 => ?_)
  rotate_left
  · repeat refine gp_gc [] od_Rf_told rfl rfl ?_
    first | refine And.intro (fun _ => ?_) (fun c => absurd rfl c) | refine And.intro (fun c => absurd rfl c) (fun _ => ?_)
    repeat refine gp_gc [] od_Rf_told rfl rfl ?_
    exact h0 (fun z => n2 z.2)
  repeat refine gp_gc [] od_Rf_told rfl rfl ?_
  first | refine And.intro (fun c => absurd c (by decide)) (fun _ => ?_) | refine And.intro (fun _ => ?_) (fun c => absurd c (by decide))
  repeat refine gp_gc [] od_Rf_told rfl rfl ?_
  refine sp_Rf_toldBy (d := d) ok (gp_in57 a1 b1) ?_
  (repeat refine gp_gc [] od_Rf_told rfl rfl ?_)
  exact h1 ⟨a1, b1⟩ ⟨a2, b2⟩
def gf_thS (f : Nat → Int32) (i : Nat) (t : Int32) : Int32 := t ||| 1 <<< (f i &&& 31)
set_option maxRecDepth 100000 in
theorem sp_Rf_never {k : Int32} {n : Nat} (ok : gf_ok w n) (h1 : 0 ≤ k ∧ k ≤ 5 → K (some (.int (gp_it (gf_thS (w 97)) 0 n 0 &&& (gf_told w k (1 <<< (w 95 0 &&& 31) - 1) (w 95 1) n ^^^ -1)))) (gv w u q)) (h0 : ¬ (0 ≤ k ∧ k ≤ 5) → K (some (.int (-1))) (gv w u q)) : gp_Cal l G (d + 4) m_Rf_never [.ref 95, .int k] (gv w u q) K := by
  refine gp_enter od_Rf_never rfl ?_
  (repeat refine gp_gc [14] od_Rf_never rfl rfl ?_)
  refine sp_Rf_isMind (fun a1 b1 => ?_) (fun n1 => ?_)
  rotate_left
  · repeat refine gp_gc [14] od_Rf_never rfl rfl ?_
    first | refine And.intro (fun _ => ?_) (fun c => absurd rfl c) | refine And.intro (fun c => absurd rfl c) (fun _ => ?_)
    repeat refine gp_gc [14] od_Rf_never rfl rfl ?_
    exact h0 n1
  repeat refine gp_gc [14] od_Rf_never rfl rfl ?_
  first | refine And.intro (fun c => absurd c (by decide)) (fun _ => ?_) | refine And.intro (fun _ => ?_) (fun c => absurd c (by decide))
  repeat refine gp_gc [14] od_Rf_never rfl rfl ?_
  refine gp_iter (P := fun j s => ∀ x, x = nI j → gp_Go l G (d + 4) m_Rf_never K 14 [some (.ref 95), some (.int k), some (.int s), some (.int x)] [] (gv w u q) 0 0) (gf_thS (w 97)) n ?_ n 0 0 (by omega) ?_ 0 rfl
  · intro j s hj hp x ex
    subst ex
    have i1 := gf_i1 ok hj
    have ec := gf_c ok.2.1 hj
    have hp := hp _ (gp_inc rfl)
    have c : ¬ w 95 0 ≤ nI j := by rw [ok.1]; exact nI_ge hj (by have := ok.2.1; omega)
    refine gp_go od_Rf_never rfl ?_
    (repeat refine gp_gc [14] od_Rf_never rfl rfl ?_)
    refine gb_ge_f c ?_
    (repeat refine gp_gc [14] od_Rf_never rfl rfl ?_)
    refine And.intro i1 ?_
    (repeat refine gp_gc [14] od_Rf_never rfl rfl ?_)
    rw [ec]
    exact hp
  · intro x ex
    subst ex
    refine gp_go od_Rf_never rfl ?_
    (repeat refine gp_gc [14] od_Rf_never rfl rfl ?_)
    refine gb_ge_t (by rw [ok.1]; exact Int32.le_refl _) ?_
    (repeat refine gp_gc [14] od_Rf_never rfl rfl ?_)
    refine sp_Rf_allMarks (d := d + 3) ?_
    (repeat refine gp_gc [14] od_Rf_never rfl rfl ?_)
    refine sp_Rf_toldBy (d := d) ok (gp_in57 a1 b1) ?_
    (repeat refine gp_gc [14] od_Rf_never rfl rfl ?_)
    exact h1 ⟨a1, b1⟩
def gf_coS (f : Nat → Int32) (set : Int32) (i : Nat) (t : Int32) : Int32 := t + (if (set >>> (nI i &&& 31)) &&& 1 = 1 then f i else 0)
def gf_cost (f : Nat → Int32) (set : Int32) (n : Nat) : Int32 := gp_it (gf_coS f set) 0 n 0
set_option maxRecDepth 100000 in
theorem sp_Rf_costOfSet {set : Int32} {n : Nat} (ok : gf_ok w n) (h : K (some (.int (gf_cost (w 98) set n))) (gv w u q)) : gp_Cal l G (d + 0) m_Rf_costOfSet [.ref 95, .int set] (gv w u q) K := by
  refine gp_enter od_Rf_costOfSet rfl ?_
  (repeat refine gp_gc [4] od_Rf_costOfSet rfl rfl ?_)
  refine gp_iter (P := fun j s => ∀ x, x = nI j → gp_Go l G (d + 0) m_Rf_costOfSet K 4 [some (.ref 95), some (.int set), some (.int s), some (.int x)] [] (gv w u q) 0 0) (gf_coS (w 98) set) n ?_ n 0 0 (by omega) ?_ 0 rfl
  · intro j s hj hp x ex
    subst ex
    have i1 := gf_i1 ok hj
    have ec := gf_c ok.2.1 hj
    have hp := hp _ (gp_inc rfl)
    have c : ¬ w 95 0 ≤ nI j := by rw [ok.1]; exact nI_ge hj (by have := ok.2.1; omega)
    unfold gf_coS at hp
    refine gp_go od_Rf_costOfSet rfl ?_
    (repeat refine gp_gc [4] od_Rf_costOfSet rfl rfl ?_)
    refine gb_ge_f c ?_
    (repeat refine gp_gc [4] od_Rf_costOfSet rfl rfl ?_)
    by_cases b1 : (set >>> (nI j &&& 31)) &&& 1 = 1
    · rw [if_pos b1] at hp
      refine gb_ne_f b1 ?_
      (repeat refine gp_gc [4] od_Rf_costOfSet rfl rfl ?_)
      refine And.intro i1 ?_
      (repeat refine gp_gc [4] od_Rf_costOfSet rfl rfl ?_)
      rw [ec]
      exact hp
    · rw [if_neg b1] at hp
      refine gb_ne_t b1 ?_
      (repeat refine gp_gc [4] od_Rf_costOfSet rfl rfl ?_)
      exact hp
  · intro x ex
    subst ex
    refine gp_go od_Rf_costOfSet rfl ?_
    (repeat refine gp_gc [4] od_Rf_costOfSet rfl rfl ?_)
    refine gb_ge_t (by rw [ok.1]; exact Int32.le_refl _) ?_
    (repeat refine gp_gc [4] od_Rf_costOfSet rfl rfl ?_)
    exact h
def gf_an (nd : Nat → Int32) : Nat → Int32 → Int32
  | 0, s => s ||| (if (s >>> (nI 0 &&& 31)) &&& 1 = 1 then nd 0 else 0)
  | k + 1, s => gf_an nd k (s ||| (if (s >>> (nI (k + 1) &&& 31)) &&& 1 = 1 then nd (k + 1) else 0))
set_option maxRecDepth 100000 in
theorem sp_Rf_allNeeds {m : Int32} {i : Nat} (em : m = nI i) (hi : i < 16) (h : K (some (.int (gf_an (w 101) i (1 <<< (m &&& 31))))) (gv w u q)) : gp_Cal l G (d + 0) m_Rf_allNeeds [.ref 95, .int m] (gv w u q) K := by
  refine gp_enter od_Rf_allNeeds rfl ?_
  (repeat refine gp_gc [6] od_Rf_allNeeds rfl rfl ?_)
  have key : ∀ (k : Nat) (s x : Int32), k < 16 → x = nI k → K (some (.int (gf_an (w 101) k s))) (gv w u q) → gp_Go l G (d + 0) m_Rf_allNeeds K 6 [some (.ref 95), some (.int m), some (.int s), some (.int x)] [] (gv w u q) 0 0 := by
    intro k
    induction k with
    | zero =>
      intro s x hk ex h
      subst ex
      unfold gf_an at h
      have i1 : vp_in (nI 0) 16 := vp_in_nI (by decide) (by decide)
      refine gp_go od_Rf_allNeeds rfl ?_
      (repeat refine gp_gc [6] od_Rf_allNeeds rfl rfl ?_)
      refine gb1_lt_f (by decide) ?_
      (repeat refine gp_gc [6] od_Rf_allNeeds rfl rfl ?_)
      by_cases b1 : (s >>> (nI 0 &&& 31)) &&& 1 = 1
      · rw [if_pos b1] at h
        refine gb_ne_f b1 ?_
        (repeat refine gp_gc [6] od_Rf_allNeeds rfl rfl ?_)
        refine And.intro i1 ?_
        (repeat refine gp_gc [6] od_Rf_allNeeds rfl rfl ?_)
        refine gp_go od_Rf_allNeeds rfl ?_
        (repeat refine gp_gc [6] od_Rf_allNeeds rfl rfl ?_)
        refine gb1_lt_t (by decide) ?_
        (repeat refine gp_gc [6] od_Rf_allNeeds rfl rfl ?_)
        exact h
      · rw [if_neg b1] at h
        refine gb_ne_t b1 ?_
        (repeat refine gp_gc [6] od_Rf_allNeeds rfl rfl ?_)
        refine gp_go od_Rf_allNeeds rfl ?_
        (repeat refine gp_gc [6] od_Rf_allNeeds rfl rfl ?_)
        refine gb1_lt_t (by decide) ?_
        (repeat refine gp_gc [6] od_Rf_allNeeds rfl rfl ?_)
        exact h
    | succ k ih =>
      intro s x hk ex h
      subst ex
      unfold gf_an at h
      have i1 : vp_in (nI (k + 1)) 16 := vp_in_nI hk (by decide)
      have ec : (nI (k + 1)).toNatClampNeg = k + 1 := nI_clamp (by omega)
      have hlt : ¬ nI (k + 1) < 0 := nI_pos (by omega)
      have e1 : nI (k + 1) + Int32.ofInt (-1) = nI k := pk_m1 k
      refine gp_go od_Rf_allNeeds rfl ?_
      (repeat refine gp_gc [6] od_Rf_allNeeds rfl rfl ?_)
      refine gb1_lt_f hlt ?_
      (repeat refine gp_gc [6] od_Rf_allNeeds rfl rfl ?_)
      by_cases b1 : (s >>> (nI (k + 1) &&& 31)) &&& 1 = 1
      · rw [if_pos b1] at h
        refine gb_ne_f b1 ?_
        (repeat refine gp_gc [6] od_Rf_allNeeds rfl rfl ?_)
        refine And.intro i1 ?_
        (repeat refine gp_gc [6] od_Rf_allNeeds rfl rfl ?_)
        rw [ec]
        exact ih _ _ (by omega) e1 h
      · rw [if_neg b1] at h
        refine gb_ne_t b1 ?_
        (repeat refine gp_gc [6] od_Rf_allNeeds rfl rfl ?_)
        exact ih _ _ (by omega) e1 h
  exact key i _ _ hi em h

end
end
section
section
variable {l : Launch} {G : gp_G} {d : Nat} {w : Nat → Nat → Int32} {u : Int64 × (Nat → Int64)} {q : Nat → Nat} {K : Option Value → gp_H → Prop}
/-! ===== the reference's methods: alone, worth, best, deeper ===== -/
theorem gf_mk {w : Nat → Nat → Int32} {n : Nat} {m : Int32} (ok : gf_ok w n) (h0 : 0 ≤ m) (h1 : m ≤ w 95 0 - 1) : ∃ i, i < n ∧ m = nI i := by
  obtain ⟨e, hn, -⟩ := ok
  rw [e] at h1
  obtain ⟨j, hj, rfl⟩ := nI_of (Int32.not_lt.mpr h0)
  rcases Nat.eq_zero_or_pos n with h | h
  · subst h
    have := Int32.le_iff_toInt_le.mp h1
    rw [nI_toInt hj] at this
    have e2 : (nI 0 - 1).toInt = -1 := by decide
    omega
  · have e2 : nI n - 1 = nI (n - 1) := by
      have := nI_pred (n - 1)
      rwa [Nat.sub_add_cancel h] at this
    rw [e2, nI_leI hj (by omega)] at h1
    exact ⟨j, by omega, rfl⟩
abbrev gf_abl (w : Nat → Nat → Int32) (k y : Int32) (i : Nat) : Prop := (w 100 i &&& (w 107 k.toNatClampNeg ^^^ -1) = 0 ∧ 0 < gf_left w (nI i) y) ∧ w 102 i &&& (w 108 k.toNatClampNeg ^^^ -1) = 0
abbrev gf_alC (w : Nat → Nat → Int32) (k set y : Int32) (i : Nat) : Prop := (set >>> (nI i &&& 31)) &&& 1 = 1 → gf_abl w k y i
set_option maxRecDepth 100000 in
theorem sp_Rf_isAlone {k m y : Int32} {n i : Nat} (ok : gf_ok w n) (i0 : vp_in k 7) (em : m = nI i) (hi : i < n) (h1 : (∀ j, j ≤ i → gf_alC w k (gf_an (w 101) i (1 <<< (m &&& 31))) y j) → K (some (.int 1)) (gv w u q)) (h0 : ¬ (∀ j, j ≤ i → gf_alC w k (gf_an (w 101) i (1 <<< (m &&& 31))) y j) → K (some (.int 0)) (gv w u q)) : gp_Cal l G (d + 3) m_Rf_isAlone [.ref 95, .int k, .int m, .int y] (gv w u q) K := by
  refine gp_enter od_Rf_isAlone rfl ?_
  have hn := ok.2.1
  (repeat refine gp_gc [10] od_Rf_isAlone rfl rfl ?_)
  refine sp_Rf_allNeeds (d := d + 2) em (by omega) ?_
  generalize gf_an (w 101) i (1 <<< (m &&& 31)) = set at h1 h0 ⊢
  (repeat refine gp_gc [10] od_Rf_isAlone rfl rfl ?_)
  have key : ∀ (r j : Nat) (x : Int32), j + r = i + 1 → x = nI j → (∀ t, t < j → gf_alC w k set y t) → gp_Go l G (d + 3) m_Rf_isAlone K 10 [some (.ref 95), some (.int k), some (.int m), some (.int y), some (.int set), some (.int x)] [] (gv w u q) 0 0 := by
    intro r
    induction r with
    | zero =>
      intro j x hj ex hall
      subst ex
      refine gp_go od_Rf_isAlone rfl ?_
      (repeat refine gp_gc [10] od_Rf_isAlone rfl rfl ?_)
      refine gb_gt_t (by rw [em]; exact nI_lt (by omega) (by omega)) ?_
      (repeat refine gp_gc [10] od_Rf_isAlone rfl rfl ?_)
      exact And.intro (Or.inr rfl) (h1 (fun t ht => hall t (by omega)))
    | succ r ih =>
      intro j x hj ex hall
      subst ex
      have hjn : j < n := by omega
      have i1 := gf_i1 ok hjn
      have ec := gf_c ok.2.1 hjn
      have i2 := ok.2.2 j hjn
      refine gp_go od_Rf_isAlone rfl ?_
      (repeat refine gp_gc [10] od_Rf_isAlone rfl rfl ?_)
      refine gb_gt_f (by rw [em]; exact nI_nlt (by omega) (by omega)) ?_
      (repeat refine gp_gc [10] od_Rf_isAlone rfl rfl ?_)
      by_cases b1 : (set >>> (nI j &&& 31)) &&& 1 = 1
      rotate_left
      · refine gb_ne_t b1 ?_
        (repeat refine gp_gc [10] od_Rf_isAlone rfl rfl ?_)
        exact ih (j + 1) _ (by omega) (gp_inc rfl) (lt_s hall (fun z => absurd z b1))
      refine gb_ne_f b1 ?_
      (repeat refine gp_gc [10] od_Rf_isAlone rfl rfl ?_)
      refine sp_Rf_canSee (d := d) i0 i1 (by rw [ec]; exact i2) (fun b2 b3 => ?_) (fun b2 => ?_)
      rotate_left
      · rw [ec] at b2
        (repeat refine gp_gc [10] od_Rf_isAlone rfl rfl ?_)
        refine gb1_eq_t rfl ?_
        (repeat refine gp_gc [10] od_Rf_isAlone rfl rfl ?_)
        exact And.intro (Or.inl rfl) (h0 (fun z => b2 (z j (by omega) b1).1))
      rw [ec] at b2
      (repeat refine gp_gc [10] od_Rf_isAlone rfl rfl ?_)
      refine gb1_eq_f (by decide) ?_
      (repeat refine gp_gc [10] od_Rf_isAlone rfl rfl ?_)
      refine And.intro i1 ?_
      (repeat refine gp_gc [10] od_Rf_isAlone rfl rfl ?_)
      refine And.intro i0 ?_
      (repeat refine gp_gc [10] od_Rf_isAlone rfl rfl ?_)
      rw [ec]
      by_cases b5 : w 102 j &&& (w 108 k.toNatClampNeg ^^^ -1) = 0
      rotate_left
      · refine gb1_eq_f b5 ?_
        (repeat refine gp_gc [10] od_Rf_isAlone rfl rfl ?_)
        exact And.intro (Or.inl rfl) (h0 (fun z => b5 (z j (by omega) b1).2))
      refine gb1_eq_t b5 ?_
      (repeat refine gp_gc [10] od_Rf_isAlone rfl rfl ?_)
      exact ih (j + 1) _ (by omega) (gp_inc rfl) (lt_s hall (fun _ => ⟨⟨b2, b3⟩, b5⟩))
  exact key (i + 1) 0 _ (by omega) rfl (fun t ht => absurd ht (by omega))
set_option maxRecDepth 100000 in
theorem sp_Rf_alone {k m : Int32} {n : Nat} (ok : gf_ok w n) (h1 : ∀ i, i < n → m = nI i → 0 ≤ k ∧ k ≤ 5 → (∀ j, j ≤ i → gf_alC w k (gf_an (w 101) i (1 <<< (m &&& 31))) (w 95 1) j) → K (some (.int 1)) (gv w u q)) (h2 : ∀ i, i < n → m = nI i → 0 ≤ k ∧ k ≤ 5 → ¬ (∀ j, j ≤ i → gf_alC w k (gf_an (w 101) i (1 <<< (m &&& 31))) (w 95 1) j) → K (some (.int 0)) (gv w u q)) (h0 : ¬ ((0 ≤ k ∧ k ≤ 5) ∧ 0 ≤ m ∧ m ≤ w 95 0 - 1) → K (some (.int (-1))) (gv w u q)) : gp_Cal l G (d + 4) m_Rf_alone [.ref 95, .int k, .int m] (gv w u q) K := by
  refine gp_enter od_Rf_alone rfl ?_
  (repeat refine gp_gc [] od_Rf_alone rfl rfl ?_)
  refine sp_Rf_isMind (fun a1 b1 => ?_) (fun n1 => ?_)
  rotate_left
  · repeat refine gp_gc [] od_Rf_alone rfl rfl ?_
    first | refine And.intro (fun _ => ?_) (fun c => absurd rfl c) | refine And.intro (fun c => absurd rfl c) (fun _ => ?_)
    repeat refine gp_gc [] od_Rf_alone rfl rfl ?_
    exact h0 (fun z => n1 z.1)
  repeat refine gp_gc [] od_Rf_alone rfl rfl ?_
  first | refine And.intro (fun c => absurd c (by decide)) (fun _ => ?_) | refine And.intro (fun _ => ?_) (fun c => absurd c (by decide))
  repeat refine gp_gc [] od_Rf_alone rfl rfl ?_
  refine sp_Rf_isMark (fun a2 b2 => ?_) (fun n2 => ?_)
  rotate_left
  · repeat refine gp_gc [] od_Rf_alone rfl rfl ?_
    first | refine And.intro (fun _ => ?_) (fun c => absurd rfl c) | refine And.intro (fun c => absurd rfl c) (fun _ => ?_)
    repeat refine gp_gc [] od_Rf_alone rfl rfl ?_
    exact h0 (fun z => n2 z.2)
  repeat refine gp_gc [] od_Rf_alone rfl rfl ?_
  first | refine And.intro (fun c => absurd c (by decide)) (fun _ => ?_) | refine And.intro (fun _ => ?_) (fun c => absurd c (by decide))
  repeat refine gp_gc [] od_Rf_alone rfl rfl ?_
  obtain ⟨i, hi, em⟩ := gf_mk ok a2 b2
  refine sp_Rf_isAlone (d := d) ok (gp_in57 a1 b1) em hi (fun z => ?_) (fun z => ?_)
  · (repeat refine gp_gc [] od_Rf_alone rfl rfl ?_)
    refine gb1_eq_f (by decide) ?_
    (repeat refine gp_gc [] od_Rf_alone rfl rfl ?_)
    exact h1 i hi em ⟨a1, b1⟩ z
  · (repeat refine gp_gc [] od_Rf_alone rfl rfl ?_)
    refine gb1_eq_t rfl ?_
    (repeat refine gp_gc [] od_Rf_alone rfl rfl ?_)
    exact h2 i hi em ⟨a1, b1⟩ z
def gf_woS (w : Nat → Nat → Int32) (set minds worst y : Int32) (n k : Nat) (v : Int32) : Int32 := if (minds >>> (nI k &&& 31)) &&& 1 = 0 then v else if worst = 0 then v + gf_count (gf_told w (nI k) set y n) else if gf_count (gf_told w (nI k) set y n) < v then gf_count (gf_told w (nI k) set y n) else v
def gf_worth (w : Nat → Nat → Int32) (set minds worst y : Int32) (n : Nat) : Int32 := gp_it (gf_woS w set minds worst y n) 0 6 (if worst = 0 then 0 else 17)
set_option maxRecDepth 100000 in
theorem sp_Rf_worth {set minds worst : Int32} {n : Nat} (ok : gf_ok w n) (h : K (some (.int (gf_worth w set minds worst (w 95 1) n))) (gv w u q)) : gp_Cal l G (d + 4) m_Rf_worth [.ref 95, .int set, .int minds, .int worst] (gv w u q) K := by
  refine gp_enter od_Rf_worth rfl ?_
  unfold gf_worth at h
  have key : ∀ v0 : Int32, K (some (.int (gp_it (gf_woS w set minds worst (w 95 1) n) 0 6 v0))) (gv w u q) → gp_Go l G (d + 4) m_Rf_worth K 15 [some (.ref 95), some (.int set), some (.int minds), some (.int worst), some (.int v0), some (.int 0), none] [] (gv w u q) 0 0 := by
    intro v0 h
    refine gp_iter (P := fun j s => ∀ x, x = nI j → gp_Go l G (d + 4) m_Rf_worth K 15 [some (.ref 95), some (.int set), some (.int minds), some (.int worst), some (.int s), some (.int x), none] [] (gv w u q) 0 0) (gf_woS w set minds worst (w 95 1) n) 6 ?_ 6 0 v0 (by omega) ?_ 0 rfl
    · intro j s hj hp x ex
      subst ex
      have i0 : vp_in (nI j) 7 := vp_in_nI (by omega) (by decide)
      have hp := hp _ (gp_inc rfl)
      unfold gf_woS at hp
      refine gp_go od_Rf_worth rfl ?_
      (repeat refine gp_gc [15] od_Rf_worth rfl rfl ?_)
      refine gb_ge_f (nI_ge hj (by decide)) ?_
      (repeat refine gp_gc [15] od_Rf_worth rfl rfl ?_)
      by_cases b1 : (minds >>> (nI j &&& 31)) &&& 1 = 0
      · rw [if_pos b1] at hp
        refine gb1_ne_f b1 ?_
        (repeat refine gp_gc [15] od_Rf_worth rfl rfl ?_)
        exact hp
      rw [if_neg b1] at hp
      refine gb1_ne_t b1 ?_
      (repeat refine gp_gc [15] od_Rf_worth rfl rfl ?_)
      refine sp_Rf_toldBy (d := d) ok i0 ?_
      (repeat refine gp_gc [15] od_Rf_worth rfl rfl ?_)
      refine sp_Rf_count ?_
      (repeat refine gp_gc [15] od_Rf_worth rfl rfl ?_)
      by_cases b2 : worst = 0
      · rw [if_pos b2] at hp
        refine gb1_eq_t b2 ?_
        (repeat refine gp_gc [15] od_Rf_worth rfl rfl ?_)
        refine gp_drop 6 ?_
        exact hp
      rw [if_neg b2] at hp
      refine gb1_eq_f b2 ?_
      (repeat refine gp_gc [15] od_Rf_worth rfl rfl ?_)
      by_cases b3 : gf_count (gf_told w (nI j) set (w 95 1) n) < s
      · rw [if_pos b3] at hp
        refine gb_ge_f' b3 ?_
        (repeat refine gp_gc [15] od_Rf_worth rfl rfl ?_)
        refine gp_drop 6 ?_
        exact hp
      · rw [if_neg b3] at hp
        refine gb_ge_t' b3 ?_
        (repeat refine gp_gc [15] od_Rf_worth rfl rfl ?_)
        refine gp_drop 6 ?_
        exact hp
    · intro x ex
      subst ex
      refine gp_go od_Rf_worth rfl ?_
      (repeat refine gp_gc [15] od_Rf_worth rfl rfl ?_)
      refine gb_ge_t (Int32.le_refl _) ?_
      (repeat refine gp_gc [15] od_Rf_worth rfl rfl ?_)
      exact h
  (repeat refine gp_gc [15] od_Rf_worth rfl rfl ?_)
  by_cases b : worst = 0
  · rw [if_pos b] at h
    refine gb1_eq_t b ?_
    (repeat refine gp_gc [15] od_Rf_worth rfl rfl ?_)
    exact key _ h
  · rw [if_neg b] at h
    refine gb1_eq_f b ?_
    (repeat refine gp_gc [15] od_Rf_worth rfl rfl ?_)
    exact key _ h
def gf_beS (w : Nat → Nat → Int32) (budget minds worst y : Int32) (n s : Nat) (b : Int32 × Int32) : Int32 × Int32 :=
  if budget < gf_cost (w 98) (nI s) n then b else
  if gf_worth w (nI s) minds worst y n < b.2 ∨ (gf_worth w (nI s) minds worst y n = b.2 ∧ gf_cost (w 98) b.1 n ≤ gf_cost (w 98) (nI s) n) then b else (nI s, gf_worth w (nI s) minds worst y n)
def gf_best (w : Nat → Nat → Int32) (budget minds worst y : Int32) (n : Nat) : Int32 × Int32 := gp_it (gf_beS w budget minds worst y n) 1 (2 ^ (min n 12) - 1) (0, gf_worth w 0 minds worst y n)

end
end
section
section
variable {l : Launch} {G : gp_G} {d : Nat} {w : Nat → Nat → Int32} {u : Int64 × (Nat → Int64)} {q : Nat → Nat} {K : Option Value → gp_H → Prop}
/-! ===== the reference's methods: best, deeper ===== -/
theorem gf_p2 {t : Nat} (h : t ≤ 12) : (1 : Int32) <<< (nI t &&& 31) = nI (2 ^ t) := by
  rcases (show t = 0 ∨ t = 1 ∨ t = 2 ∨ t = 3 ∨ t = 4 ∨ t = 5 ∨ t = 6 ∨ t = 7 ∨ t = 8 ∨ t = 9 ∨ t = 10 ∨ t = 11 ∨ t = 12 by omega) with rfl | rfl | rfl | rfl | rfl | rfl | rfl | rfl | rfl | rfl | rfl | rfl | rfl <;> decide
theorem gf_p2b {t : Nat} (h : t ≤ 12) : 1 ≤ 2 ^ t ∧ 2 ^ t ≤ 4096 := by
  rcases (show t = 0 ∨ t = 1 ∨ t = 2 ∨ t = 3 ∨ t = 4 ∨ t = 5 ∨ t = 6 ∨ t = 7 ∨ t = 8 ∨ t = 9 ∨ t = 10 ∨ t = 11 ∨ t = 12 by omega) with rfl | rfl | rfl | rfl | rfl | rfl | rfl | rfl | rfl | rfl | rfl | rfl | rfl <;> decide
set_option maxRecDepth 100000 in
theorem gl_Rf_best {budget minds what most worst : Int32} {n t : Nat} (ok : gf_ok w n) (em : most = nI t) (ht : t ≤ 12) (hw : (1 < what ∧ worst = 1) ∨ (¬ 1 < what ∧ worst = 0)) (v0 : Int32 × Int32) (h : K (some (.int (if what - what / 2 * 2 = 0 then (gp_it (gf_beS w budget minds worst (w 95 1) n) 1 (2 ^ t - 1) v0).1 else (gp_it (gf_beS w budget minds worst (w 95 1) n) 1 (2 ^ t - 1) v0).2))) (gv w u q)) : gp_Go l G (d + 5) m_Rf_best K 76 [some (.ref 95), some (.int budget), some (.int minds), some (.int what), some (.int most), some (.int v0.1), some (.int v0.2), some (.int 1), none, none] [] (gv w u q) 0 0 := by
  have hp2 := gf_p2b ht
  refine gp_iter (P := fun j s => ∀ x, x = nI j → gp_Go l G (d + 5) m_Rf_best K 76 [some (.ref 95), some (.int budget), some (.int minds), some (.int what), some (.int most), some (.int s.1), some (.int s.2), some (.int x), none, none] [] (gv w u q) 0 0) (gf_beS w budget minds worst (w 95 1) n) (2 ^ t) ?_ (2 ^ t - 1) 1 v0 (by omega) ?_ 1 rfl
  · intro j s hj hp x ex
    subst ex
    have hp := hp _ (gp_inc rfl)
    unfold gf_beS at hp
    have c : ¬ 1 <<< (most &&& 31) ≤ nI j := by rw [em, gf_p2 ht]; exact nI_ge hj (by omega)
    have key : ∀ cst : Int32, cst = gf_cost (w 98) (nI j) n → ¬ budget < cst → gp_Go l G (d + 5) m_Rf_best K 121 [some (.ref 95), some (.int budget), some (.int minds), some (.int what), some (.int most), some (.int s.1), some (.int s.2), some (.int (nI j)), some (.int cst), some (.int (gf_worth w (nI j) minds worst (w 95 1) n))] [] (gv w u q) 0 0 := by
      intro cst ec hb
      rw [← ec, if_neg hb] at hp
      refine gp_go od_Rf_best rfl ?_
      (repeat refine gp_gc [76] od_Rf_best rfl rfl ?_)
      by_cases b1 : gf_worth w (nI j) minds worst (w 95 1) n < s.2
      · rw [if_pos (Or.inl b1)] at hp
        refine gb_lt_t b1 ?_
        (repeat refine gp_gc [76] od_Rf_best rfl rfl ?_)
        refine gp_drop 8 ?_
        refine gp_drop 9 ?_
        exact hp
      refine gb_lt_f b1 ?_
      (repeat refine gp_gc [76] od_Rf_best rfl rfl ?_)
      by_cases b2 : gf_worth w (nI j) minds worst (w 95 1) n = s.2
      rotate_left
      · rw [if_neg (fun z => z.elim b1 (fun z => b2 z.1))] at hp
        refine gb_ne_t b2 ?_
        (repeat refine gp_gc [76] od_Rf_best rfl rfl ?_)
        refine gp_drop 8 ?_
        refine gp_drop 9 ?_
        exact hp
      refine gb_ne_f b2 ?_
      (repeat refine gp_gc [76] od_Rf_best rfl rfl ?_)
      refine sp_Rf_costOfSet (d := d + 4) ok ?_
      (repeat refine gp_gc [76] od_Rf_best rfl rfl ?_)
      by_cases b3 : gf_cost (w 98) s.1 n ≤ cst
      · rw [if_pos (Or.inr ⟨b2, b3⟩)] at hp
        refine gb_lt_f' b3 ?_
        (repeat refine gp_gc [76] od_Rf_best rfl rfl ?_)
        refine gp_drop 8 ?_
        refine gp_drop 9 ?_
        exact hp
      · rw [if_neg (fun z => z.elim b1 (fun z => b3 z.2))] at hp
        refine gb_lt_t' b3 ?_
        (repeat refine gp_gc [76] od_Rf_best rfl rfl ?_)
        refine gp_drop 8 ?_
        refine gp_drop 9 ?_
        exact hp
    refine gp_go od_Rf_best rfl ?_
    (repeat refine gp_gc [76] od_Rf_best rfl rfl ?_)
    refine gb_ge_f c ?_
    (repeat refine gp_gc [76] od_Rf_best rfl rfl ?_)
    refine sp_Rf_costOfSet (d := d + 4) ok ?_
    (repeat refine gp_gc [76] od_Rf_best rfl rfl ?_)
    by_cases b0 : budget < gf_cost (w 98) (nI j) n
    · rw [if_pos b0] at hp
      refine gb_le_f' b0 ?_
      (repeat refine gp_gc [76] od_Rf_best rfl rfl ?_)
      refine gp_drop 8 ?_
      exact hp
    refine gb_le_t' b0 ?_
    (repeat refine gp_gc [76] od_Rf_best rfl rfl ?_)
    rcases hw with ⟨hw, rfl⟩ | ⟨hw, rfl⟩
    · refine gb_le_f' hw ?_
      (repeat refine gp_gc [76] od_Rf_best rfl rfl ?_)
      refine sp_Rf_worth (d := d) ok ?_
      (repeat refine gp_gc [76, 121] od_Rf_best rfl rfl ?_)
      exact key _ rfl b0
    · refine gb_le_t' hw ?_
      (repeat refine gp_gc [76, 121] od_Rf_best rfl rfl ?_)
      refine sp_Rf_worth (d := d) ok ?_
      (repeat refine gp_gc [76, 121] od_Rf_best rfl rfl ?_)
      exact key _ rfl b0
  · intro x ex
    subst ex
    refine gp_go od_Rf_best rfl ?_
    (repeat refine gp_gc [76, 121] od_Rf_best rfl rfl ?_)
    have c : 1 <<< (most &&& 31) ≤ nI (2 ^ t) := by rw [em, gf_p2 ht]; exact Int32.le_refl _
    refine gb_ge_t c ?_
    (repeat refine gp_gc [76, 121] od_Rf_best rfl rfl ?_)
    refine And.intro (by decide) ?_
    (repeat refine gp_gc [76, 121] od_Rf_best rfl rfl ?_)
    by_cases b : what - what / 2 * 2 = 0
    · rw [if_pos b] at h
      refine gb1_ne_f b ?_
      (repeat refine gp_gc [76, 121] od_Rf_best rfl rfl ?_)
      exact h
    · rw [if_neg b] at h
      refine gb1_ne_t b ?_
      (repeat refine gp_gc [76, 121] od_Rf_best rfl rfl ?_)
      exact h
set_option maxRecDepth 100000 in
theorem sp_Rf_best {budget minds what : Int32} {n : Nat} (ok : gf_ok w n) (h1 : ∀ worst : Int32, (1 < what ∧ worst = 1) ∨ (¬ 1 < what ∧ worst = 0) → (0 ≤ budget ∧ budget ≤ 9999) ∧ (1 ≤ minds ∧ minds ≤ 63) ∧ 0 ≤ what ∧ what ≤ 3 → K (some (.int (if what - what / 2 * 2 = 0 then (gf_best w budget minds worst (w 95 1) n).1 else (gf_best w budget minds worst (w 95 1) n).2))) (gv w u q)) (h0 : ¬ ((0 ≤ budget ∧ budget ≤ 9999) ∧ (1 ≤ minds ∧ minds ≤ 63) ∧ 0 ≤ what ∧ what ≤ 3) → K (some (.int (-1))) (gv w u q)) : gp_Cal l G (d + 5) m_Rf_best [.ref 95, .int budget, .int minds, .int what] (gv w u q) K := by
  refine gp_enter od_Rf_best rfl ?_
  have hn := ok.2.1
  (repeat refine gp_gc [76] od_Rf_best rfl rfl ?_)
  refine sp_Rf_isIn (fun a1 b1 => ?_) (fun n1 => ?_)
  rotate_left
  · repeat refine gp_gc [76] od_Rf_best rfl rfl ?_
    first | refine And.intro (fun _ => ?_) (fun c => absurd rfl c) | refine And.intro (fun c => absurd rfl c) (fun _ => ?_)
    repeat refine gp_gc [76] od_Rf_best rfl rfl ?_
    exact h0 (fun z => n1 z.1)
  repeat refine gp_gc [76] od_Rf_best rfl rfl ?_
  first | refine And.intro (fun c => absurd c (by decide)) (fun _ => ?_) | refine And.intro (fun _ => ?_) (fun c => absurd c (by decide))
  repeat refine gp_gc [76] od_Rf_best rfl rfl ?_
  refine sp_Rf_isIn (fun a2 b2 => ?_) (fun n2 => ?_)
  rotate_left
  · repeat refine gp_gc [76] od_Rf_best rfl rfl ?_
    first | refine And.intro (fun _ => ?_) (fun c => absurd rfl c) | refine And.intro (fun c => absurd rfl c) (fun _ => ?_)
    repeat refine gp_gc [76] od_Rf_best rfl rfl ?_
    exact h0 (fun z => n2 z.2.1)
  repeat refine gp_gc [76] od_Rf_best rfl rfl ?_
  first | refine And.intro (fun c => absurd c (by decide)) (fun _ => ?_) | refine And.intro (fun _ => ?_) (fun c => absurd c (by decide))
  repeat refine gp_gc [76] od_Rf_best rfl rfl ?_
  refine sp_Rf_isIn (fun a3 b3 => ?_) (fun n3 => ?_)
  rotate_left
  · repeat refine gp_gc [76] od_Rf_best rfl rfl ?_
    first | refine And.intro (fun _ => ?_) (fun c => absurd rfl c) | refine And.intro (fun c => absurd rfl c) (fun _ => ?_)
    repeat refine gp_gc [76] od_Rf_best rfl rfl ?_
    exact h0 (fun z => n3 z.2.2)
  repeat refine gp_gc [76] od_Rf_best rfl rfl ?_
  first | refine And.intro (fun c => absurd c (by decide)) (fun _ => ?_) | refine And.intro (fun _ => ?_) (fun c => absurd c (by decide))
  repeat refine gp_gc [76] od_Rf_best rfl rfl ?_
  have key : ∀ (most : Int32), most = nI (min n 12) → gp_Go l G (d + 5) m_Rf_best K 50 [some (.ref 95), some (.int budget), some (.int minds), some (.int what), none, none, none, none, none, none] [.int most] (gv w u q) 0 0 := by
    intro most em
    refine gp_go od_Rf_best rfl ?_
    (repeat refine gp_gc [76] od_Rf_best rfl rfl ?_)
    by_cases b : 1 < what
    · refine gb_le_f' b ?_
      (repeat refine gp_gc [76] od_Rf_best rfl rfl ?_)
      refine sp_Rf_worth (d := d) ok ?_
      (repeat refine gp_gc [76] od_Rf_best rfl rfl ?_)
      exact gl_Rf_best ok em (by omega) (Or.inl ⟨b, rfl⟩) (0, gf_worth w 0 minds 1 (w 95 1) n) (h1 1 (Or.inl ⟨b, rfl⟩) ⟨⟨a1, b1⟩, ⟨a2, b2⟩, a3, b3⟩)
    · refine gb_le_t' b ?_
      (repeat refine gp_gc [76] od_Rf_best rfl rfl ?_)
      refine sp_Rf_worth (d := d) ok ?_
      (repeat refine gp_gc [76] od_Rf_best rfl rfl ?_)
      exact gl_Rf_best ok em (by omega) (Or.inr ⟨b, rfl⟩) (0, gf_worth w 0 minds 0 (w 95 1) n) (h1 0 (Or.inr ⟨b, rfl⟩) ⟨⟨a1, b1⟩, ⟨a2, b2⟩, a3, b3⟩)
  by_cases b : w 95 0 < 12
  · have hb : n < 12 := by
      have := b
      rw [ok.1] at this
      exact (nI_ltI (by omega) (by decide)).mp this
    refine gb_ge_f' b ?_
    (repeat refine gp_gc [50, 76] od_Rf_best rfl rfl ?_)
    exact key _ (by rw [ok.1, Nat.min_eq_left (by omega)])
  · have hb : 12 ≤ n := by
      have := b
      rw [ok.1] at this
      exact Nat.not_lt.mp (fun z => this (nI_lt z (by decide)))
    refine gb_ge_t' b ?_
    (repeat refine gp_gc [50, 76] od_Rf_best rfl rfl ?_)
    exact key _ (by rw [Nat.min_eq_right hb]; rfl)
theorem gw_gw (w : Nat → Nat → Int32) (a k : Nat) (x y : Int32) : gw (gw w a k x) a k y = gw w a k y := by
  funext b j
  by_cases hb : b = a
  · subst hb
    by_cases hj : j = k
    · simp [gw, upd, hj]
    · simp [gw, upd, hj]
  · simp [gw, hb]
theorem gw_self {w : Nat → Nat → Int32} {a k : Nat} {x : Int32} (h : w a k = x) : gw w a k x = w := by
  funext b j
  by_cases hb : b = a
  · subst hb
    by_cases hj : j = k
    · subst hj; simp [gw, upd, h]
    · simp [gw, upd, hj]
  · simp [gw, hb]
def gf_dpS (w : Nat → Nat → Int32) (k y all : Int32) (n m : Nat) (s : Int32 × Int32) : Int32 × Int32 := if s.1 < gf_count (gf_told (gw w 95 13 (nI m)) k all y n) then (gf_count (gf_told (gw w 95 13 (nI m)) k all y n), nI m) else s
set_option maxRecDepth 100000 in
theorem sp_Rf_deeper {k y : Int32} {n : Nat} (ok : gf_ok w n) (hd : w 95 13 = -1) (h1 : (0 ≤ k ∧ k ≤ 5) ∧ 0 ≤ y ∧ y ≤ 999 → K (some (.int (gp_it (gf_dpS w k y (1 <<< (w 95 0 &&& 31) - 1) n) 0 n (gf_count (gf_told w k (1 <<< (w 95 0 &&& 31) - 1) y n), -1)).2)) (gv w u q)) (h0 : ¬ ((0 ≤ k ∧ k ≤ 5) ∧ 0 ≤ y ∧ y ≤ 999) → K (some (.int (-1))) (gv w u q)) : gp_Cal l G (d + 4) m_Rf_deeper [.ref 95, .int k, .int y] (gv w u q) K := by
  refine gp_enter od_Rf_deeper rfl ?_
  (repeat refine gp_gc [41] od_Rf_deeper rfl rfl ?_)
  refine sp_Rf_isMind (fun a1 b1 => ?_) (fun n1 => ?_)
  rotate_left
  · repeat refine gp_gc [41] od_Rf_deeper rfl rfl ?_
    first | refine And.intro (fun _ => ?_) (fun c => absurd rfl c) | refine And.intro (fun c => absurd rfl c) (fun _ => ?_)
    repeat refine gp_gc [41] od_Rf_deeper rfl rfl ?_
    exact h0 (fun z => n1 z.1)
  repeat refine gp_gc [41] od_Rf_deeper rfl rfl ?_
  first | refine And.intro (fun c => absurd c (by decide)) (fun _ => ?_) | refine And.intro (fun _ => ?_) (fun c => absurd c (by decide))
  repeat refine gp_gc [41] od_Rf_deeper rfl rfl ?_
  refine sp_Rf_isIn (fun a2 b2 => ?_) (fun n2 => ?_)
  rotate_left
  · repeat refine gp_gc [41] od_Rf_deeper rfl rfl ?_
    first | refine And.intro (fun _ => ?_) (fun c => absurd rfl c) | refine And.intro (fun c => absurd rfl c) (fun _ => ?_)
    repeat refine gp_gc [41] od_Rf_deeper rfl rfl ?_
    exact h0 (fun z => n2 z.2)
  repeat refine gp_gc [41] od_Rf_deeper rfl rfl ?_
  first | refine And.intro (fun c => absurd c (by decide)) (fun _ => ?_) | refine And.intro (fun _ => ?_) (fun c => absurd c (by decide))
  repeat refine gp_gc [41] od_Rf_deeper rfl rfl ?_
  have i0 := gp_in57 a1 b1
  have h1 := h1 ⟨⟨a1, b1⟩, a2, b2⟩
  refine sp_Rf_allMarks (d := d + 3) ?_
  (repeat refine gp_gc [41] od_Rf_deeper rfl rfl ?_)
  refine sp_Rf_toldBy (d := d) ok i0 ?_
  (repeat refine gp_gc [41] od_Rf_deeper rfl rfl ?_)
  refine sp_Rf_count ?_
  (repeat refine gp_gc [41] od_Rf_deeper rfl rfl ?_)
  refine gp_iter (P := fun j s => ∀ x, x = nI j → gp_Go l G (d + 4) m_Rf_deeper K 41 [some (.ref 95), some (.int k), some (.int y), some (.int s.1), some (.int s.2), some (.int x), none] [] (gv w u q) 0 0) (gf_dpS w k y (1 <<< (w 95 0 &&& 31) - 1) n) n ?_ n 0 (gf_count (gf_told w k (1 <<< (w 95 0 &&& 31) - 1) y n), -1) (by omega) ?_ 0 rfl
  · intro j s hj hp x ex
    subst ex
    have hp := hp _ (gp_inc rfl)
    unfold gf_dpS at hp
    have ok' : gf_ok (gw w 95 13 (nI j)) n := ⟨ok.1, ok.2.1, ok.2.2⟩
    refine gp_go od_Rf_deeper rfl ?_
    (repeat refine gp_gc [41] od_Rf_deeper rfl rfl ?_)
    refine gb_ge_f (by rw [ok.1]; exact nI_ge hj (by have := ok.2.1; omega)) ?_
    (repeat refine gp_gc [41] od_Rf_deeper rfl rfl ?_)
    refine sp_Rf_allMarks (d := d + 3) (w := gw w 95 13 (nI j)) ?_
    (repeat refine gp_gc [41] od_Rf_deeper rfl rfl ?_)
    refine sp_Rf_toldBy (d := d) ok' i0 ?_
    (repeat refine gp_gc [41] od_Rf_deeper rfl rfl ?_)
    refine sp_Rf_count ?_
    (repeat refine gp_gc [41, 76] od_Rf_deeper rfl rfl ?_)
    have e : gw (gw w 95 13 (nI j)) 95 13 (-1) = w := by rw [gw_gw, gw_self hd]
    by_cases b : s.1 < gf_count (gf_told (gw w 95 13 (nI j)) k (1 <<< (w 95 0 &&& 31) - 1) y n)
    · rw [if_pos b] at hp
      have key : gp_Go l G (d + 4) m_Rf_deeper K 76 [some (.ref 95), some (.int k), some (.int y), some (.int s.1), some (.int s.2), some (.int (nI j)), some (.int (gf_count (gf_told (gw w 95 13 (nI j)) k (1 <<< (w 95 0 &&& 31) - 1) y n)))] [] (gv (gw (gw w 95 13 (nI j)) 95 13 (-1)) u q) 0 0 := by
        rw [e]
        refine gp_go od_Rf_deeper rfl ?_
        (repeat refine gp_gc [41] od_Rf_deeper rfl rfl ?_)
        refine gb_gt_t b ?_
        (repeat refine gp_gc [41] od_Rf_deeper rfl rfl ?_)
        refine gp_drop 6 ?_
        exact hp
      exact key
    · rw [if_neg b] at hp
      have key : gp_Go l G (d + 4) m_Rf_deeper K 76 [some (.ref 95), some (.int k), some (.int y), some (.int s.1), some (.int s.2), some (.int (nI j)), some (.int (gf_count (gf_told (gw w 95 13 (nI j)) k (1 <<< (w 95 0 &&& 31) - 1) y n)))] [] (gv (gw (gw w 95 13 (nI j)) 95 13 (-1)) u q) 0 0 := by
        rw [e]
        refine gp_go od_Rf_deeper rfl ?_
        (repeat refine gp_gc [41] od_Rf_deeper rfl rfl ?_)
        refine gb_gt_f b ?_
        (repeat refine gp_gc [41] od_Rf_deeper rfl rfl ?_)
        refine gp_drop 6 ?_
        exact hp
      exact key
  · intro x ex
    subst ex
    refine gp_go od_Rf_deeper rfl ?_
    (repeat refine gp_gc [41] od_Rf_deeper rfl rfl ?_)
    refine gb_ge_t (by rw [ok.1]; exact Int32.le_refl _) ?_
    (repeat refine gp_gc [41] od_Rf_deeper rfl rfl ?_)
    exact h1

end
end
section
section
variable {l : Launch} {G : gp_G} {d : Nat} {w : Nat → Nat → Int32} {u : Int64 × (Nat → Int64)} {q : Nat → Nat} {K : Option Value → gp_H → Prop}
/-! ===== the reference's methods: tell, put, end, feed ===== -/
abbrev gf_okT (what v m th a b : Int32) : Prop := (what = 0 ∧ 0 ≤ v ∧ v ≤ 1 <<< (m &&& 31) - 1) ∨ (what = 1 ∧ 0 ≤ v ∧ v ≤ 255) ∨ (what = 2 ∧ (-1 ≤ v ∧ v ≤ 15) ∧ ¬ v = th ∧ ¬ (v = -1 ∧ ¬ b = -1)) ∨ (what = 3 ∧ (-1 ≤ v ∧ v ≤ 15) ∧ ¬ v = th ∧ ¬ (¬ v = -1 ∧ a = -1))
theorem gf_w3 {x : Int32} (h0 : 0 ≤ x) (h1 : x ≤ 3) : x = 0 ∨ x = 1 ∨ x = 2 ∨ x = 3 := by
  obtain ⟨j, hj, rfl⟩ := nI_of2 (n := 3) (M := 3) rfl (Int32.not_lt.mpr h0) h1
  rcases (show j = 0 ∨ j = 1 ∨ j = 2 ∨ j = 3 by omega) with rfl | rfl | rfl | rfl
  · exact Or.inl rfl
  · exact Or.inr (Or.inl rfl)
  · exact Or.inr (Or.inr (Or.inl rfl))
  · exact Or.inr (Or.inr (Or.inr rfl))
set_option maxRecDepth 100000 in
theorem sp_Rf_tell {m what v : Int32} (hin : 0 ≤ m → m ≤ w 95 0 - 1 → vp_in m 16 ∧ vp_in (2 * m) 32 ∧ vp_in (2 * m + 1) 32 ∧ vp_in (2 * m + 2 - 2) 32 ∧ vp_in (2 * m + 3 - 2) 32) (h0 : ¬ ((0 ≤ m ∧ m ≤ w 95 0 - 1) ∧ gf_okT what v m (w 97 m.toNatClampNeg) (w 103 (2 * m).toNatClampNeg) (w 103 (2 * m + 1).toNatClampNeg)) → K (some (.int 0)) (gv w u q)) (hA : 0 ≤ m ∧ m ≤ w 95 0 - 1 → what = 0 → gf_okT what v m (w 97 m.toNatClampNeg) (w 103 (2 * m).toNatClampNeg) (w 103 (2 * m + 1).toNatClampNeg) → K (some (.int 1)) (gv (gw w 101 m.toNatClampNeg v) u q)) (hB : 0 ≤ m ∧ m ≤ w 95 0 - 1 → what = 1 → gf_okT what v m (w 97 m.toNatClampNeg) (w 103 (2 * m).toNatClampNeg) (w 103 (2 * m + 1).toNatClampNeg) → K (some (.int 1)) (gv (gw w 102 m.toNatClampNeg v) u q)) (hC : 0 ≤ m ∧ m ≤ w 95 0 - 1 → what = 2 → gf_okT what v m (w 97 m.toNatClampNeg) (w 103 (2 * m).toNatClampNeg) (w 103 (2 * m + 1).toNatClampNeg) → K (some (.int 1)) (gv (gw w 103 (2 * m + 2 - 2).toNatClampNeg v) u q)) (hD : 0 ≤ m ∧ m ≤ w 95 0 - 1 → what = 3 → gf_okT what v m (w 97 m.toNatClampNeg) (w 103 (2 * m).toNatClampNeg) (w 103 (2 * m + 1).toNatClampNeg) → K (some (.int 1)) (gv (gw w 103 (2 * m + 3 - 2).toNatClampNeg v) u q)) : gp_Cal l G (d + 2) m_Rf_tell [.ref 95, .int m, .int what, .int v] (gv w u q) K := by
  refine gp_enter od_Rf_tell rfl ?_
  (repeat refine gp_gc [] od_Rf_tell rfl rfl ?_)
  refine sp_Rf_isMark (fun a1 b1 => ?_) (fun n1 => ?_)
  rotate_left
  · repeat refine gp_gc [] od_Rf_tell rfl rfl ?_
    first | refine And.intro (fun _ => ?_) (fun c => absurd rfl c) | refine And.intro (fun c => absurd rfl c) (fun _ => ?_)
    repeat refine gp_gc [] od_Rf_tell rfl rfl ?_
    exact And.intro (Or.inl rfl) (h0 (fun z => n1 z.1))
  repeat refine gp_gc [] od_Rf_tell rfl rfl ?_
  first | refine And.intro (fun c => absurd c (by decide)) (fun _ => ?_) | refine And.intro (fun _ => ?_) (fun c => absurd c (by decide))
  repeat refine gp_gc [] od_Rf_tell rfl rfl ?_
  obtain ⟨i1, i2, i3, i4, i5⟩ := hin a1 b1
  refine sp_Rf_isIn (fun a2 b2 => ?_) (fun n2 => ?_)
  rotate_left
  · (repeat refine gp_gc [] od_Rf_tell rfl rfl ?_)
    refine gb1_ne_f rfl ?_
    (repeat refine gp_gc [] od_Rf_tell rfl rfl ?_)
    exact And.intro (Or.inl rfl) (h0 (fun z => n2 (by rcases z.2 with ⟨e, -⟩ | ⟨e, -⟩ | ⟨e, -⟩ | ⟨e, -⟩ <;> subst e <;> exact ⟨by decide, by decide⟩)))
  rcases gf_w3 a2 b2 with rfl | rfl | rfl | rfl
  · (repeat refine gp_gc [] od_Rf_tell rfl rfl ?_)
    refine gb1_ne_t (by decide) ?_
    (repeat refine gp_gc [] od_Rf_tell rfl rfl ?_)
    refine gb1_ne_f rfl ?_
    (repeat refine gp_gc [] od_Rf_tell rfl rfl ?_)
    refine sp_Rf_isIn (fun a3 b3 => ?_) (fun n3 => ?_)
    · have hA := hA ⟨a1, b1⟩ rfl (Or.inl ⟨rfl, a3, b3⟩)
      (repeat refine gp_gc [] od_Rf_tell rfl rfl ?_)
      refine gb1_eq_f (by decide) ?_
      (repeat refine gp_gc [] od_Rf_tell rfl rfl ?_)
      refine gb_ne_t (by decide) ?_
      (repeat refine gp_gc [] od_Rf_tell rfl rfl ?_)
      refine gb_le_t (by decide) ?_
      (repeat refine gp_gc [] od_Rf_tell rfl rfl ?_)
      refine gb_ne_t (by decide) ?_
      (repeat refine gp_gc [] od_Rf_tell rfl rfl ?_)
      refine gb_ne_t (by decide) ?_
      (repeat refine gp_gc [] od_Rf_tell rfl rfl ?_)
      refine gb1_ne_f rfl ?_
      (repeat refine gp_gc [] od_Rf_tell rfl rfl ?_)
      refine And.intro i1 ?_
      (repeat refine gp_gc [] od_Rf_tell rfl rfl ?_)
      refine gb_ne_t (by decide) ?_
      (repeat refine gp_gc [] od_Rf_tell rfl rfl ?_)
      refine gb_le_t (by decide) ?_
      (repeat refine gp_gc [] od_Rf_tell rfl rfl ?_)
      exact And.intro (Or.inr rfl) hA
    · (repeat refine gp_gc [] od_Rf_tell rfl rfl ?_)
      refine gb1_eq_t rfl ?_
      (repeat refine gp_gc [] od_Rf_tell rfl rfl ?_)
      exact And.intro (Or.inl rfl) (h0 (fun z => by
        rcases z.2 with ⟨e, z⟩ | ⟨e, z⟩ | ⟨e, z⟩ | ⟨e, z⟩
        · exact n3 z
        · exact absurd e (by decide)
        · exact absurd e (by decide)
        · exact absurd e (by decide)))
  · (repeat refine gp_gc [] od_Rf_tell rfl rfl ?_)
    refine gb1_ne_t (by decide) ?_
    (repeat refine gp_gc [] od_Rf_tell rfl rfl ?_)
    refine gb1_ne_t (by decide) ?_
    (repeat refine gp_gc [] od_Rf_tell rfl rfl ?_)
    refine gb_ne_f rfl ?_
    (repeat refine gp_gc [] od_Rf_tell rfl rfl ?_)
    refine sp_Rf_isIn (fun a3 b3 => ?_) (fun n3 => ?_)
    · have hB := hB ⟨a1, b1⟩ rfl (Or.inr (Or.inl ⟨rfl, a3, b3⟩))
      (repeat refine gp_gc [] od_Rf_tell rfl rfl ?_)
      refine gb1_ne_t (by decide) ?_
      (repeat refine gp_gc [] od_Rf_tell rfl rfl ?_)
      refine gb_le_t (by decide) ?_
      (repeat refine gp_gc [] od_Rf_tell rfl rfl ?_)
      refine gb_ne_t (by decide) ?_
      (repeat refine gp_gc [] od_Rf_tell rfl rfl ?_)
      refine gb_ne_t (by decide) ?_
      (repeat refine gp_gc [] od_Rf_tell rfl rfl ?_)
      refine gb1_ne_t (by decide) ?_
      (repeat refine gp_gc [] od_Rf_tell rfl rfl ?_)
      refine gb_ne_f rfl ?_
      (repeat refine gp_gc [] od_Rf_tell rfl rfl ?_)
      refine And.intro i1 ?_
      (repeat refine gp_gc [] od_Rf_tell rfl rfl ?_)
      refine gb_le_t (by decide) ?_
      (repeat refine gp_gc [] od_Rf_tell rfl rfl ?_)
      exact And.intro (Or.inr rfl) hB
    · (repeat refine gp_gc [] od_Rf_tell rfl rfl ?_)
      refine gb1_ne_f rfl ?_
      (repeat refine gp_gc [] od_Rf_tell rfl rfl ?_)
      exact And.intro (Or.inl rfl) (h0 (fun z => by
        rcases z.2 with ⟨e, z⟩ | ⟨e, z⟩ | ⟨e, z⟩ | ⟨e, z⟩
        · exact absurd e (by decide)
        · exact n3 z
        · exact absurd e (by decide)
        · exact absurd e (by decide)))
  · (repeat refine gp_gc [] od_Rf_tell rfl rfl ?_)
    refine gb1_ne_t (by decide) ?_
    (repeat refine gp_gc [] od_Rf_tell rfl rfl ?_)
    refine gb1_ne_t (by decide) ?_
    (repeat refine gp_gc [] od_Rf_tell rfl rfl ?_)
    refine gb_ne_t (by decide) ?_
    (repeat refine gp_gc [] od_Rf_tell rfl rfl ?_)
    refine gb_le_f (by decide) ?_
    (repeat refine gp_gc [] od_Rf_tell rfl rfl ?_)
    refine sp_Rf_isIn (fun a3 b3 => ?_) (fun n3 => ?_)
    rotate_left
    · (repeat refine gp_gc [] od_Rf_tell rfl rfl ?_)
      refine gb1_eq_t rfl ?_
      (repeat refine gp_gc [] od_Rf_tell rfl rfl ?_)
      exact And.intro (Or.inl rfl) (h0 (fun z => by
        rcases z.2 with ⟨e, z⟩ | ⟨e, z⟩ | ⟨e, z⟩ | ⟨e, z⟩
        · exact absurd e (by decide)
        · exact absurd e (by decide)
        · exact n3 z.1
        · exact absurd e (by decide)))
    (repeat refine gp_gc [] od_Rf_tell rfl rfl ?_)
    refine gb1_eq_f (by decide) ?_
    (repeat refine gp_gc [] od_Rf_tell rfl rfl ?_)
    refine And.intro i1 ?_
    (repeat refine gp_gc [] od_Rf_tell rfl rfl ?_)
    by_cases b4 : v = w 97 m.toNatClampNeg
    · refine gb_ne_f b4 ?_
      (repeat refine gp_gc [] od_Rf_tell rfl rfl ?_)
      exact And.intro (Or.inl rfl) (h0 (fun z => by
        rcases z.2 with ⟨e, z⟩ | ⟨e, z⟩ | ⟨e, z⟩ | ⟨e, z⟩
        · exact absurd e (by decide)
        · exact absurd e (by decide)
        · exact z.2.1 b4
        · exact absurd e (by decide)))
    refine gb_ne_t b4 ?_
    (repeat refine gp_gc [] od_Rf_tell rfl rfl ?_)
    refine gb_ne_f rfl ?_
    (repeat refine gp_gc [] od_Rf_tell rfl rfl ?_)
    have fin : ∀ hh : ¬ (v = -1 ∧ ¬ w 103 (2 * m + 1).toNatClampNeg = -1), gp_Go l G (d + 2) m_Rf_tell K 105 [some (.ref 95), some (.int m), some (.int 2), some (.int v)] [] (gv w u q) 0 0 := by
      intro hh
      have hC := hC ⟨a1, b1⟩ rfl (Or.inr (Or.inr (Or.inl ⟨rfl, ⟨a3, b3⟩, b4, hh⟩)))
      refine gp_go od_Rf_tell rfl ?_
      (repeat refine gp_gc [] od_Rf_tell rfl rfl ?_)
      refine gb_ne_t (by decide) ?_
      (repeat refine gp_gc [] od_Rf_tell rfl rfl ?_)
      refine gb1_ne_t (by decide) ?_
      (repeat refine gp_gc [] od_Rf_tell rfl rfl ?_)
      refine gb_ne_t (by decide) ?_
      (repeat refine gp_gc [] od_Rf_tell rfl rfl ?_)
      refine gb_le_f (by decide) ?_
      (repeat refine gp_gc [] od_Rf_tell rfl rfl ?_)
      refine And.intro i4 ?_
      (repeat refine gp_gc [] od_Rf_tell rfl rfl ?_)
      exact And.intro (Or.inr rfl) hC
    by_cases b5 : v = -1
    rotate_left
    · refine gb_ne_t b5 ?_
      (repeat refine gp_gc [105] od_Rf_tell rfl rfl ?_)
      exact fin (fun z => b5 z.1)
    refine gb_ne_f b5 ?_
    (repeat refine gp_gc [105] od_Rf_tell rfl rfl ?_)
    refine And.intro i3 ?_
    (repeat refine gp_gc [105] od_Rf_tell rfl rfl ?_)
    by_cases b6 : w 103 (2 * m + 1).toNatClampNeg = -1
    · refine gb_ne_f b6 ?_
      (repeat refine gp_gc [105] od_Rf_tell rfl rfl ?_)
      exact fin (fun z => z.2 b6)
    · refine gb_ne_t b6 ?_
      (repeat refine gp_gc [105] od_Rf_tell rfl rfl ?_)
      exact And.intro (Or.inl rfl) (h0 (fun z => by
        rcases z.2 with ⟨e, z⟩ | ⟨e, z⟩ | ⟨e, z⟩ | ⟨e, z⟩
        · exact absurd e (by decide)
        · exact absurd e (by decide)
        · exact z.2.2 ⟨b5, b6⟩
        · exact absurd e (by decide)))
  · (repeat refine gp_gc [] od_Rf_tell rfl rfl ?_)
    refine gb1_ne_t (by decide) ?_
    (repeat refine gp_gc [] od_Rf_tell rfl rfl ?_)
    refine gb1_ne_t (by decide) ?_
    (repeat refine gp_gc [] od_Rf_tell rfl rfl ?_)
    refine gb_ne_t (by decide) ?_
    (repeat refine gp_gc [] od_Rf_tell rfl rfl ?_)
    refine gb_le_f (by decide) ?_
    (repeat refine gp_gc [] od_Rf_tell rfl rfl ?_)
    refine sp_Rf_isIn (fun a3 b3 => ?_) (fun n3 => ?_)
    rotate_left
    · (repeat refine gp_gc [] od_Rf_tell rfl rfl ?_)
      refine gb1_eq_t rfl ?_
      (repeat refine gp_gc [] od_Rf_tell rfl rfl ?_)
      exact And.intro (Or.inl rfl) (h0 (fun z => by
        rcases z.2 with ⟨e, z⟩ | ⟨e, z⟩ | ⟨e, z⟩ | ⟨e, z⟩
        · exact absurd e (by decide)
        · exact absurd e (by decide)
        · exact absurd e (by decide)
        · exact n3 z.1))
    (repeat refine gp_gc [] od_Rf_tell rfl rfl ?_)
    refine gb1_eq_f (by decide) ?_
    (repeat refine gp_gc [] od_Rf_tell rfl rfl ?_)
    refine And.intro i1 ?_
    (repeat refine gp_gc [] od_Rf_tell rfl rfl ?_)
    by_cases b4 : v = w 97 m.toNatClampNeg
    · refine gb_ne_f b4 ?_
      (repeat refine gp_gc [] od_Rf_tell rfl rfl ?_)
      exact And.intro (Or.inl rfl) (h0 (fun z => by
        rcases z.2 with ⟨e, z⟩ | ⟨e, z⟩ | ⟨e, z⟩ | ⟨e, z⟩
        · exact absurd e (by decide)
        · exact absurd e (by decide)
        · exact absurd e (by decide)
        · exact z.2.1 b4))
    refine gb_ne_t b4 ?_
    (repeat refine gp_gc [] od_Rf_tell rfl rfl ?_)
    refine gb_ne_t (by decide) ?_
    (repeat refine gp_gc [] od_Rf_tell rfl rfl ?_)
    refine gb_ne_f rfl ?_
    (repeat refine gp_gc [] od_Rf_tell rfl rfl ?_)
    have fin : ∀ hh : ¬ (¬ v = -1 ∧ w 103 (2 * m).toNatClampNeg = -1), gp_Go l G (d + 2) m_Rf_tell K 129 [some (.ref 95), some (.int m), some (.int 3), some (.int v)] [] (gv w u q) 0 0 := by
      intro hh
      have hD := hD ⟨a1, b1⟩ rfl (Or.inr (Or.inr (Or.inr ⟨rfl, ⟨a3, b3⟩, b4, hh⟩)))
      refine gp_go od_Rf_tell rfl ?_
      (repeat refine gp_gc [] od_Rf_tell rfl rfl ?_)
      refine gb1_ne_t (by decide) ?_
      (repeat refine gp_gc [] od_Rf_tell rfl rfl ?_)
      refine gb_ne_t (by decide) ?_
      (repeat refine gp_gc [] od_Rf_tell rfl rfl ?_)
      refine gb_le_f (by decide) ?_
      (repeat refine gp_gc [] od_Rf_tell rfl rfl ?_)
      refine And.intro i5 ?_
      (repeat refine gp_gc [] od_Rf_tell rfl rfl ?_)
      exact And.intro (Or.inr rfl) hD
    by_cases b5 : v = -1
    · refine gb_eq_t b5 ?_
      (repeat refine gp_gc [129] od_Rf_tell rfl rfl ?_)
      exact fin (fun z => z.1 b5)
    refine gb_eq_f b5 ?_
    (repeat refine gp_gc [129] od_Rf_tell rfl rfl ?_)
    refine And.intro i2 ?_
    (repeat refine gp_gc [129] od_Rf_tell rfl rfl ?_)
    by_cases b6 : w 103 (2 * m).toNatClampNeg = -1
    rotate_left
    · refine gb_ne_t b6 ?_
      (repeat refine gp_gc [129] od_Rf_tell rfl rfl ?_)
      exact fin (fun z => b6 z.2)
    · refine gb_ne_f b6 ?_
      (repeat refine gp_gc [129] od_Rf_tell rfl rfl ?_)
      exact And.intro (Or.inl rfl) (h0 (fun z => by
        rcases z.2 with ⟨e, z⟩ | ⟨e, z⟩ | ⟨e, z⟩ | ⟨e, z⟩
        · exact absurd e (by decide)
        · exact absurd e (by decide)
        · exact absurd e (by decide)
        · exact z.2.2 ⟨b5, b6⟩))
set_option maxRecDepth 100000 in
theorem sp_Rf_put {m : Int32} {k : Nat} (hk : w 95 2 = nI k) (hk16 : k ≤ 16) (hin : 0 ≤ m ∧ m ≤ w 95 0 - 1 → (∀ i, i < k → ¬ w 105 i = m) → k < 16) (h2 : m = -1 → K (some (.int 0)) (gv (gw w 95 2 0) u q)) (h0 : ¬ m = -1 → ¬ ((0 ≤ m ∧ m ≤ w 95 0 - 1) ∧ ∀ i, i < k → ¬ w 105 i = m) → K (some (.int (-1))) (gv w u q)) (h1 : ¬ m = -1 → 0 ≤ m ∧ m ≤ w 95 0 - 1 → (∀ i, i < k → ¬ w 105 i = m) → K (some (.int (w 95 2 + 1))) (gv (gw (gw w 105 (w 95 2).toNatClampNeg m) 95 2 (w 95 2 + 1)) u q)) : gp_Cal l G (d + 2) m_Rf_put [.ref 95, .int m] (gv w u q) K := by
  refine gp_enter od_Rf_put rfl ?_
  (repeat refine gp_gc [24] od_Rf_put rfl rfl ?_)
  by_cases b0 : m = -1
  · refine gb_ne_f b0 ?_
    (repeat refine gp_gc [24] od_Rf_put rfl rfl ?_)
    exact h2 b0
  refine gb_ne_t b0 ?_
  (repeat refine gp_gc [24] od_Rf_put rfl rfl ?_)
  refine sp_Rf_isMark (fun a1 b1 => ?_) (fun n1 => ?_)
  rotate_left
  · repeat refine gp_gc [24] od_Rf_put rfl rfl ?_
    first | refine And.intro (fun _ => ?_) (fun c => absurd rfl c) | refine And.intro (fun c => absurd rfl c) (fun _ => ?_)
    repeat refine gp_gc [24] od_Rf_put rfl rfl ?_
    exact h0 b0 (fun z => n1 z.1)
  repeat refine gp_gc [24] od_Rf_put rfl rfl ?_
  first | refine And.intro (fun c => absurd c (by decide)) (fun _ => ?_) | refine And.intro (fun _ => ?_) (fun c => absurd c (by decide))
  repeat refine gp_gc [24] od_Rf_put rfl rfl ?_
  have key : ∀ (r j : Nat) (x : Int32), j + r = k → x = nI j → (∀ t, t < j → ¬ w 105 t = m) → gp_Go l G (d + 2) m_Rf_put K 24 [some (.ref 95), some (.int m), some (.int x)] [] (gv w u q) 0 0 := by
    intro r
    induction r with
    | zero =>
      intro j x hj ex hall
      subst ex
      have hj : j = k := by omega
      subst hj
      have hlt := hin ⟨a1, b1⟩ hall
      refine gp_go od_Rf_put rfl ?_
      (repeat refine gp_gc [24] od_Rf_put rfl rfl ?_)
      refine gb_ge_t (by rw [hk]; exact Int32.le_refl _) ?_
      (repeat refine gp_gc [24] od_Rf_put rfl rfl ?_)
      refine And.intro (by rw [hk]; exact vp_in_nI hlt (by decide)) ?_
      (repeat refine gp_gc [24] od_Rf_put rfl rfl ?_)
      exact h1 b0 ⟨a1, b1⟩ hall
    | succ r ih =>
      intro j x hj ex hall
      subst ex
      have ec : (nI j).toNatClampNeg = j := nI_clamp (by omega)
      refine gp_go od_Rf_put rfl ?_
      (repeat refine gp_gc [24] od_Rf_put rfl rfl ?_)
      refine gb_ge_f (by rw [hk]; exact nI_ge (by omega) (by omega)) ?_
      (repeat refine gp_gc [24] od_Rf_put rfl rfl ?_)
      refine And.intro (vp_in_nI (by omega) (by decide)) ?_
      (repeat refine gp_gc [24] od_Rf_put rfl rfl ?_)
      rw [ec]
      by_cases b2 : w 105 j = m
      · refine gb_ne_f b2 ?_
        (repeat refine gp_gc [24] od_Rf_put rfl rfl ?_)
        exact h0 b0 (fun z => z.2 j (by omega) b2)
      · refine gb_ne_t b2 ?_
        (repeat refine gp_gc [24] od_Rf_put rfl rfl ?_)
        exact ih (j + 1) _ (by omega) (gp_inc rfl) (lt_s hall b2)
  exact key k 0 _ (by omega) rfl (fun t ht => absurd ht (by omega))
set_option maxRecDepth 100000 in
theorem sp_Rf_end {v : Int32} (h1 : 0 ≤ v ∧ v ≤ w 95 33 → K (some (.int 1)) (gv (gw w 95 33 v) u q)) (h0 : ¬ (0 ≤ v ∧ v ≤ w 95 33) → K (some (.int 0)) (gv w u q)) : gp_Cal l G (d + 1) m_Rf_end [.ref 95, .int v] (gv w u q) K := by
  refine gp_enter od_Rf_end rfl ?_
  (repeat refine gp_gc [] od_Rf_end rfl rfl ?_)
  refine sp_Rf_isIn (fun a1 b1 => ?_) (fun n1 => ?_)
  rotate_left
  · repeat refine gp_gc [] od_Rf_end rfl rfl ?_
    first | refine And.intro (fun _ => ?_) (fun c => absurd rfl c) | refine And.intro (fun c => absurd rfl c) (fun _ => ?_)
    repeat refine gp_gc [] od_Rf_end rfl rfl ?_
    exact And.intro (Or.inl rfl) (h0 n1)
  repeat refine gp_gc [] od_Rf_end rfl rfl ?_
  first | refine And.intro (fun c => absurd c (by decide)) (fun _ => ?_) | refine And.intro (fun _ => ?_) (fun c => absurd c (by decide))
  repeat refine gp_gc [] od_Rf_end rfl rfl ?_
  exact And.intro (Or.inr rfl) (h1 ⟨a1, b1⟩)

end
end
section
section
variable {l : Launch} {G : gp_G} {d : Nat} {w : Nat → Nat → Int32} {u : Int64 × (Nat → Int64)} {q : Nat → Nat} {K : Option Value → gp_H → Prop}
/-! ===== the reference's methods: of, beats, tape, bits ===== -/
def gf_chF (k : Nat) (w : Nat → Nat → Int32) : Nat → Nat → Int32 := gw w 106 k (gf_chV (w 101 k) (w 106) k)
theorem gf_chF_ne : ∀ (k i : Nat) (w : Nat → Nat → Int32) (a : Nat), a ≠ 106 → gp_it gf_chF i k w a = w a
  | 0, _, _, _, _ => rfl
  | k + 1, i, w, a, h => by
    rw [gp_it, gf_chF_ne k (i + 1) _ a h, gf_chF, gw_ne h]
theorem gf_left_eq {w W : Nat → Nat → Int32} {m y : Int32} (h : ∀ a, a ≠ 106 → W a = w a) : gf_left W m y = gf_left w m y := by
  unfold gf_left gf_depth
  rw [h 95 (by decide), h 99 (by decide), h 104 (by decide), h 96 (by decide)]
theorem gf_depth_eq {w W : Nat → Nat → Int32} {m : Int32} (h : ∀ a, a ≠ 106 → W a = w a) : gf_depth W m = gf_depth w m := by
  unfold gf_depth
  rw [h 95 (by decide), h 99 (by decide)]
theorem gf_w2 {x : Int32} (h0 : 0 ≤ x) (h1 : x ≤ 2) : x = 0 ∨ x = 1 ∨ x = 2 := by
  obtain ⟨j, hj, rfl⟩ := nI_of2 (n := 2) (M := 2) rfl (Int32.not_lt.mpr h0) h1
  rcases (show j = 0 ∨ j = 1 ∨ j = 2 by omega) with rfl | rfl | rfl
  · exact Or.inl rfl
  · exact Or.inr (Or.inl rfl)
  · exact Or.inr (Or.inr rfl)
set_option maxRecDepth 100000 in
theorem sp_Rf_of {m what : Int32} {n : Nat} (ok : gf_ok w n) (h0 : ¬ ((0 ≤ m ∧ m ≤ w 95 0 - 1) ∧ 0 ≤ what ∧ what ≤ 2) → K (some (.int (-1000000))) (gv w u q)) (hA : ∀ i, i < n → m = nI i → what = 0 → K (some (.int (gf_left w m (w 95 1)))) (gv (gp_it gf_chF 0 (i + 1) w) u q)) (hB : ∀ i, i < n → m = nI i → what = 1 → K (some (.int (if gf_left w m (w 95 1) ≤ 0 then 2 else if gf_left w m (w 95 1) < gf_depth w m / 2 then 1 else 0))) (gv (gp_it gf_chF 0 (i + 1) w) u q)) (hC : ∀ i, i < n → m = nI i → what = 2 → K (some (.int (gp_it gf_chF 0 (i + 1) w 106 i))) (gv (gp_it gf_chF 0 (i + 1) w) u q)) : gp_Cal l G (d + 3) m_Rf_of [.ref 95, .int m, .int what] (gv w u q) K := by
  refine gp_enter od_Rf_of rfl ?_
  (repeat refine gp_gc [22] od_Rf_of rfl rfl ?_)
  refine sp_Rf_isMark (fun a1 b1 => ?_) (fun n1 => ?_)
  rotate_left
  · repeat refine gp_gc [22] od_Rf_of rfl rfl ?_
    first | refine And.intro (fun _ => ?_) (fun c => absurd rfl c) | refine And.intro (fun c => absurd rfl c) (fun _ => ?_)
    repeat refine gp_gc [22] od_Rf_of rfl rfl ?_
    exact h0 (fun z => n1 z.1)
  repeat refine gp_gc [22] od_Rf_of rfl rfl ?_
  first | refine And.intro (fun c => absurd c (by decide)) (fun _ => ?_) | refine And.intro (fun _ => ?_) (fun c => absurd c (by decide))
  repeat refine gp_gc [22] od_Rf_of rfl rfl ?_
  refine sp_Rf_isIn (fun a2 b2 => ?_) (fun n2 => ?_)
  rotate_left
  · repeat refine gp_gc [22] od_Rf_of rfl rfl ?_
    first | refine And.intro (fun _ => ?_) (fun c => absurd rfl c) | refine And.intro (fun c => absurd rfl c) (fun _ => ?_)
    repeat refine gp_gc [22] od_Rf_of rfl rfl ?_
    exact h0 (fun z => n2 z.2)
  repeat refine gp_gc [22] od_Rf_of rfl rfl ?_
  first | refine And.intro (fun c => absurd c (by decide)) (fun _ => ?_) | refine And.intro (fun _ => ?_) (fun c => absurd c (by decide))
  repeat refine gp_gc [22] od_Rf_of rfl rfl ?_
  obtain ⟨i, hi, em⟩ := gf_mk ok a1 b1
  have hn := ok.2.1
  refine gp_iter (P := fun j W => ∀ x, x = nI j → gp_Go l G (d + 3) m_Rf_of K 22 [some (.ref 95), some (.int m), some (.int what), some (.int x)] [] (gv W u q) 0 0) gf_chF (i + 1) ?_ (i + 1) 0 w (by omega) ?_ 0 rfl
  · intro j W hj hp x ex
    subst ex
    have hp := hp _ (gp_inc rfl)
    have ec : (nI j).toNatClampNeg = j := nI_clamp (by omega)
    refine gp_go od_Rf_of rfl ?_
    (repeat refine gp_gc [22] od_Rf_of rfl rfl ?_)
    refine gb_gt_f (by rw [em]; exact nI_nlt (by omega) (by omega)) ?_
    (repeat refine gp_gc [22] od_Rf_of rfl rfl ?_)
    refine sp_Rf_chain (d := d + 2) (w := W) rfl (by omega) ?_
    (repeat refine gp_gc [22] od_Rf_of rfl rfl ?_)
    refine And.intro (vp_in_nI (by omega) (by decide)) ?_
    (repeat refine gp_gc [22] od_Rf_of rfl rfl ?_)
    rw [ec]
    exact hp
  · intro x ex
    subst ex
    have hW : ∀ a, a ≠ 106 → gp_it gf_chF 0 (i + 1) w a = w a := gf_chF_ne (i + 1) 0 w
    have hA := hA i hi em
    have hB := hB i hi em
    have hC := hC i hi em
    generalize gp_it gf_chF 0 (i + 1) w = W at hA hB hC hW ⊢
    have i1 : vp_in m 16 := by rw [em]; exact vp_in_nI (by omega) (by decide)
    have ec : m.toNatClampNeg = i := by rw [em]; exact nI_clamp (by omega)
    have i2 : vp_in (W 96 m.toNatClampNeg) 7 := by rw [hW 96 (by decide), ec]; exact ok.2.2 i hi
    have e1 : gf_left W m (W 95 1) = gf_left w m (w 95 1) := by rw [gf_left_eq hW, hW 95 (by decide)]
    have e2 : gf_depth W m = gf_depth w m := gf_depth_eq hW
    rw [← e1] at hA hB
    rw [← e2] at hB
    refine gp_go od_Rf_of rfl ?_
    (repeat refine gp_gc [22] od_Rf_of rfl rfl ?_)
    refine gb_gt_t (by rw [em]; exact nI_lt (by omega) (by omega)) ?_
    (repeat refine gp_gc [22] od_Rf_of rfl rfl ?_)
    rcases gf_w2 a2 b2 with rfl | rfl | rfl
    · refine gb1_ne_f rfl ?_
      (repeat refine gp_gc [22] od_Rf_of rfl rfl ?_)
      refine sp_Rf_left (d := d + 1) i1 i2 ?_
      (repeat refine gp_gc [22] od_Rf_of rfl rfl ?_)
      exact hA rfl
    · refine gb1_ne_t (by decide) ?_
      (repeat refine gp_gc [22] od_Rf_of rfl rfl ?_)
      refine gb_ne_t (by decide) ?_
      (repeat refine gp_gc [22] od_Rf_of rfl rfl ?_)
      refine sp_Rf_left (d := d + 1) i1 i2 ?_
      (repeat refine gp_gc [22] od_Rf_of rfl rfl ?_)
      by_cases b1 : gf_left W m (W 95 1) ≤ 0
      · have hB := hB rfl
        rw [if_pos b1] at hB
        refine gb1_gt_f' b1 ?_
        (repeat refine gp_gc [22] od_Rf_of rfl rfl ?_)
        exact hB
      · have hB := hB rfl
        rw [if_neg b1] at hB
        refine gb1_gt_t' b1 ?_
        (repeat refine gp_gc [22] od_Rf_of rfl rfl ?_)
        refine sp_Rf_isWorn (d := d) i1 i2 (fun z1 z2 => ?_) (fun z => ?_)
        · rw [if_pos z2] at hB
          (repeat refine gp_gc [22] od_Rf_of rfl rfl ?_)
          refine gb1_eq_f (by decide) ?_
          (repeat refine gp_gc [22] od_Rf_of rfl rfl ?_)
          exact hB
        · rw [if_neg (fun z2 => z ⟨Int32.not_le.mp b1, z2⟩)] at hB
          (repeat refine gp_gc [22] od_Rf_of rfl rfl ?_)
          refine gb1_eq_t rfl ?_
          (repeat refine gp_gc [22] od_Rf_of rfl rfl ?_)
          exact hB
    · refine gb1_ne_t (by decide) ?_
      (repeat refine gp_gc [22] od_Rf_of rfl rfl ?_)
      refine gb_ne_f rfl ?_
      (repeat refine gp_gc [22] od_Rf_of rfl rfl ?_)
      refine And.intro i1 ?_
      (repeat refine gp_gc [22] od_Rf_of rfl rfl ?_)
      rw [ec]
      exact hC rfl
abbrev gf_okB (p s x y n : Int32) : Prop := (1 ≤ p ∧ p ≤ 999999) ∧ (0 ≤ s ∧ s ≤ 9999) ∧ (0 ≤ x ∧ x ≤ 39) ∧ (0 ≤ y ∧ y ≤ 39) ∧ ¬ n = 14
def gf_Rbeat (w : Nat → Nat → Int32) (p s x y : Int32) : Nat → Nat → Int32 := gw (gw (gw (gw (gw (gw w 130 (w 95 57).toNatClampNeg p) 131 (w 95 57).toNatClampNeg s) 132 (w 95 57).toNatClampNeg x) 133 (w 95 57).toNatClampNeg y) 134 (w 95 57).toNatClampNeg (-1)) 95 57 (w 95 57 + 1)
set_option maxRecDepth 100000 in
theorem sp_Rf_beat {p s x y : Int32} (hn : ¬ w 95 57 = 14 → vp_in (w 95 57) 14) (h1 : gf_okB p s x y (w 95 57) → K (some (.int (w 95 57 + 1 - 1))) (gv (gf_Rbeat w p s x y) u q)) (h0 : ¬ gf_okB p s x y (w 95 57) → K (some (.int (-1))) (gv w u q)) : gp_Cal l G (d + 1) m_Rf_beat [.ref 95, .int p, .int s, .int x, .int y] (gv w u q) K := by
  refine gp_enter od_Rf_beat rfl ?_
  (repeat refine gp_gc [] od_Rf_beat rfl rfl ?_)
  refine sp_Rf_isIn (fun a1 b1 => ?_) (fun n1 => ?_)
  rotate_left
  · repeat refine gp_gc [] od_Rf_beat rfl rfl ?_
    first | refine And.intro (fun _ => ?_) (fun c => absurd rfl c) | refine And.intro (fun c => absurd rfl c) (fun _ => ?_)
    repeat refine gp_gc [] od_Rf_beat rfl rfl ?_
    exact h0 (fun h => n1 h.1)
  repeat refine gp_gc [] od_Rf_beat rfl rfl ?_
  first | refine And.intro (fun c => absurd c (by decide)) (fun _ => ?_) | refine And.intro (fun _ => ?_) (fun c => absurd c (by decide))
  repeat refine gp_gc [] od_Rf_beat rfl rfl ?_
  refine sp_Rf_isIn (fun a2 b2 => ?_) (fun n1 => ?_)
  rotate_left
  · repeat refine gp_gc [] od_Rf_beat rfl rfl ?_
    first | refine And.intro (fun _ => ?_) (fun c => absurd rfl c) | refine And.intro (fun c => absurd rfl c) (fun _ => ?_)
    repeat refine gp_gc [] od_Rf_beat rfl rfl ?_
    exact h0 (fun h => n1 h.2.1)
  repeat refine gp_gc [] od_Rf_beat rfl rfl ?_
  first | refine And.intro (fun c => absurd c (by decide)) (fun _ => ?_) | refine And.intro (fun _ => ?_) (fun c => absurd c (by decide))
  repeat refine gp_gc [] od_Rf_beat rfl rfl ?_
  refine sp_Rf_isIn (fun a3 b3 => ?_) (fun n1 => ?_)
  rotate_left
  · repeat refine gp_gc [] od_Rf_beat rfl rfl ?_
    first | refine And.intro (fun _ => ?_) (fun c => absurd rfl c) | refine And.intro (fun c => absurd rfl c) (fun _ => ?_)
    repeat refine gp_gc [] od_Rf_beat rfl rfl ?_
    exact h0 (fun h => n1 h.2.2.1)
  repeat refine gp_gc [] od_Rf_beat rfl rfl ?_
  first | refine And.intro (fun c => absurd c (by decide)) (fun _ => ?_) | refine And.intro (fun _ => ?_) (fun c => absurd c (by decide))
  repeat refine gp_gc [] od_Rf_beat rfl rfl ?_
  refine sp_Rf_isIn (fun a4 b4 => ?_) (fun n1 => ?_)
  rotate_left
  · repeat refine gp_gc [] od_Rf_beat rfl rfl ?_
    first | refine And.intro (fun _ => ?_) (fun c => absurd rfl c) | refine And.intro (fun c => absurd rfl c) (fun _ => ?_)
    repeat refine gp_gc [] od_Rf_beat rfl rfl ?_
    exact h0 (fun h => n1 h.2.2.2.1)
  repeat refine gp_gc [] od_Rf_beat rfl rfl ?_
  first | refine And.intro (fun c => absurd c (by decide)) (fun _ => ?_) | refine And.intro (fun _ => ?_) (fun c => absurd c (by decide))
  repeat refine gp_gc [] od_Rf_beat rfl rfl ?_
  refine And.intro (fun c6 => ?_) (fun c6 => ?_)
  rotate_left
  · (repeat refine gp_gc [] od_Rf_beat rfl rfl ?_)
    exact h0 (fun h => h.2.2.2.2 c6)
  have i1 := hn c6
  (repeat refine gp_gc [] od_Rf_beat rfl rfl ?_)
  refine And.intro i1 ?_
  (repeat refine gp_gc [] od_Rf_beat rfl rfl ?_)
  refine And.intro i1 ?_
  (repeat refine gp_gc [] od_Rf_beat rfl rfl ?_)
  refine And.intro i1 ?_
  (repeat refine gp_gc [] od_Rf_beat rfl rfl ?_)
  refine And.intro i1 ?_
  (repeat refine gp_gc [] od_Rf_beat rfl rfl ?_)
  refine And.intro i1 ?_
  (repeat refine gp_gc [] od_Rf_beat rfl rfl ?_)
  exact h1 ⟨⟨a1, b1⟩, ⟨a2, b2⟩, ⟨a3, b3⟩, ⟨a4, b4⟩, c6⟩
abbrev gf_okF (a c : Int32) : Prop := a = -1 ∨ ((0 ≤ a ∧ a ≤ 9999999) ∧ a ≤ c ∧ c ≤ 9999999)
set_option maxRecDepth 100000 in
theorem sp_Rf_found {b a c : Int32} (hn : 0 ≤ b ∧ b ≤ w 95 57 - 1 → vp_in b 14) (h1 : 0 ≤ b ∧ b ≤ w 95 57 - 1 → gf_okF a c → K (some (.int 1)) (gv (gw (gw w 134 b.toNatClampNeg a) 135 b.toNatClampNeg c) u q)) (h0 : ¬ ((0 ≤ b ∧ b ≤ w 95 57 - 1) ∧ gf_okF a c) → K (some (.int 0)) (gv w u q)) : gp_Cal l G (d + 2) m_Rf_found [.ref 95, .int b, .int a, .int c] (gv w u q) K := by
  refine gp_enter od_Rf_found rfl ?_
  (repeat refine gp_gc [] od_Rf_found rfl rfl ?_)
  refine sp_Rf_isBeat (fun a1 b1 => ?_) (fun n1 => ?_)
  rotate_left
  · repeat refine gp_gc [] od_Rf_found rfl rfl ?_
    first | refine And.intro (fun _ => ?_) (fun c => absurd rfl c) | refine And.intro (fun c => absurd rfl c) (fun _ => ?_)
    repeat refine gp_gc [] od_Rf_found rfl rfl ?_
    exact And.intro (Or.inl rfl) (h0 (fun h => n1 h.1))
  repeat refine gp_gc [] od_Rf_found rfl rfl ?_
  first | refine And.intro (fun c => absurd c (by decide)) (fun _ => ?_) | refine And.intro (fun _ => ?_) (fun c => absurd c (by decide))
  repeat refine gp_gc [] od_Rf_found rfl rfl ?_
  have i1 := hn ⟨a1, b1⟩
  by_cases b2 : a = -1
  · refine gb_eq_t b2 ?_
    (repeat refine gp_gc [] od_Rf_found rfl rfl ?_)
    refine And.intro i1 ?_
    (repeat refine gp_gc [] od_Rf_found rfl rfl ?_)
    refine And.intro i1 ?_
    (repeat refine gp_gc [] od_Rf_found rfl rfl ?_)
    exact And.intro (Or.inr rfl) (h1 ⟨a1, b1⟩ (Or.inl b2))
  refine gb_eq_f b2 ?_
  (repeat refine gp_gc [] od_Rf_found rfl rfl ?_)
  refine sp_Rf_isIn (fun a3 b3 => ?_) (fun n1 => ?_)
  rotate_left
  · repeat refine gp_gc [] od_Rf_found rfl rfl ?_
    first | refine And.intro (fun _ => ?_) (fun c => absurd rfl c) | refine And.intro (fun c => absurd rfl c) (fun _ => ?_)
    repeat refine gp_gc [] od_Rf_found rfl rfl ?_
    exact And.intro (Or.inl rfl) (h0 (fun h => h.2.elim b2 (fun h => n1 h.1)))
  repeat refine gp_gc [] od_Rf_found rfl rfl ?_
  first | refine And.intro (fun c => absurd c (by decide)) (fun _ => ?_) | refine And.intro (fun _ => ?_) (fun c => absurd c (by decide))
  repeat refine gp_gc [] od_Rf_found rfl rfl ?_
  refine sp_Rf_isIn (fun a4 b4 => ?_) (fun n1 => ?_)
  rotate_left
  · repeat refine gp_gc [] od_Rf_found rfl rfl ?_
    first | refine And.intro (fun _ => ?_) (fun c => absurd rfl c) | refine And.intro (fun c => absurd rfl c) (fun _ => ?_)
    repeat refine gp_gc [] od_Rf_found rfl rfl ?_
    exact And.intro (Or.inl rfl) (h0 (fun h => h.2.elim b2 (fun h => n1 h.2)))
  repeat refine gp_gc [] od_Rf_found rfl rfl ?_
  first | refine And.intro (fun c => absurd c (by decide)) (fun _ => ?_) | refine And.intro (fun _ => ?_) (fun c => absurd c (by decide))
  repeat refine gp_gc [] od_Rf_found rfl rfl ?_
  refine And.intro i1 ?_
  (repeat refine gp_gc [] od_Rf_found rfl rfl ?_)
  refine And.intro i1 ?_
  (repeat refine gp_gc [] od_Rf_found rfl rfl ?_)
  exact And.intro (Or.inr rfl) (h1 ⟨a1, b1⟩ (Or.inr ⟨⟨a3, b3⟩, a4, b4⟩))
set_option maxRecDepth 100000 in
theorem sp_Rf_far {b v : Int32} (hn : 0 ≤ b ∧ b ≤ w 95 57 - 1 → vp_in b 14) (h1 : 0 ≤ b ∧ b ≤ w 95 57 - 1 → 0 ≤ v ∧ v ≤ 55 → K (some (.int 1)) (gv (gw w 136 b.toNatClampNeg v) u q)) (h0 : ¬ ((0 ≤ b ∧ b ≤ w 95 57 - 1) ∧ 0 ≤ v ∧ v ≤ 55) → K (some (.int 0)) (gv w u q)) : gp_Cal l G (d + 2) m_Rf_far [.ref 95, .int b, .int v] (gv w u q) K := by
  refine gp_enter od_Rf_far rfl ?_
  (repeat refine gp_gc [] od_Rf_far rfl rfl ?_)
  refine sp_Rf_isBeat (fun a1 b1 => ?_) (fun n1 => ?_)
  rotate_left
  · repeat refine gp_gc [] od_Rf_far rfl rfl ?_
    first | refine And.intro (fun _ => ?_) (fun c => absurd rfl c) | refine And.intro (fun c => absurd rfl c) (fun _ => ?_)
    repeat refine gp_gc [] od_Rf_far rfl rfl ?_
    exact And.intro (Or.inl rfl) (h0 (fun h => n1 h.1))
  repeat refine gp_gc [] od_Rf_far rfl rfl ?_
  first | refine And.intro (fun c => absurd c (by decide)) (fun _ => ?_) | refine And.intro (fun _ => ?_) (fun c => absurd c (by decide))
  repeat refine gp_gc [] od_Rf_far rfl rfl ?_
  refine sp_Rf_isIn (fun a2 b2 => ?_) (fun n1 => ?_)
  rotate_left
  · repeat refine gp_gc [] od_Rf_far rfl rfl ?_
    first | refine And.intro (fun _ => ?_) (fun c => absurd rfl c) | refine And.intro (fun c => absurd rfl c) (fun _ => ?_)
    repeat refine gp_gc [] od_Rf_far rfl rfl ?_
    exact And.intro (Or.inl rfl) (h0 (fun h => n1 h.2))
  repeat refine gp_gc [] od_Rf_far rfl rfl ?_
  first | refine And.intro (fun c => absurd c (by decide)) (fun _ => ?_) | refine And.intro (fun _ => ?_) (fun c => absurd c (by decide))
  repeat refine gp_gc [] od_Rf_far rfl rfl ?_
  have i1 := hn ⟨a1, b1⟩
  refine And.intro i1 ?_
  (repeat refine gp_gc [] od_Rf_far rfl rfl ?_)
  exact And.intro (Or.inr rfl) (h1 ⟨a1, b1⟩ ⟨a2, b2⟩)
/-- the byte that comes as the k-th of twenty -/
def gf_byte (a b c e f : Int32) (k : Nat) : Int32 := ((if k < 4 then a else if k < 8 then b else if k < 12 then c else if k < 16 then e else f) >>> ((24 - 8 * nI (k % 4)) &&& 31)) &&& 255
def gf_feS (a b c e f : Int32) (k : Nat) (w : Nat → Nat → Int32) : Nat → Nat → Int32 := gw (gw w 118 (w 95 33).toNatClampNeg (gf_byte a b c e f k)) 95 33 (w 95 33 + 1)
theorem gf_rem4 {k : Nat} (h : k < 20) : nI k - nI k / 4 * 4 = nI (k % 4) := pk_rem (d := 4) (by omega) (by decide) (by decide)
set_option maxRecDepth 100000 in
theorem sp_Rf_feed {a b c e f : Int32} {t : Nat} (et : w 95 33 = nI t) (ht : t ≤ 500) (h0 : 500 < w 95 33 + 20 → K (some (.int (-1))) (gv w u q)) (h1 : ¬ 500 < w 95 33 + 20 → K (some (.int (gp_it (gf_feS a b c e f) 0 20 w 95 33))) (gv (gp_it (gf_feS a b c e f) 0 20 w) u q)) : gp_Cal l G (d + 0) m_Rf_feed [.ref 95, .int a, .int b, .int c, .int e, .int f] (gv w u q) K := by
  refine gp_enter od_Rf_feed rfl ?_
  (repeat refine gp_gc [18] od_Rf_feed rfl rfl ?_)
  by_cases b0 : 500 < w 95 33 + 20
  · refine gb_le_f' b0 ?_
    (repeat refine gp_gc [18] od_Rf_feed rfl rfl ?_)
    exact h0 b0
  refine gb_le_t' b0 ?_
  (repeat refine gp_gc [18] od_Rf_feed rfl rfl ?_)
  have h1 := h1 b0
  have ht2 : t + 20 ≤ 500 := by
    rw [et] at b0
    have e20 : nI t + 20 = nI (t + 20) := nI_add t 20
    rw [e20] at b0
    exact Nat.not_lt.mp (fun z => b0 (nI_lt z (by omega)))
  refine gp_iter (P := fun j W => W 95 33 = nI (t + j) → ∀ x, x = nI j → gp_Go l G (d + 0) m_Rf_feed K 18 [some (.ref 95), some (.int a), some (.int b), some (.int c), some (.int e), some (.int f), some (.int x), none] [] (gv W u q) 0 0) (gf_feS a b c e f) 20 ?_ 20 0 w (by omega) ?_ (by rw [et]; rfl) 0 rfl
  · intro j W hj hp hW x ex
    subst ex
    have hp := hp (by show W 95 33 + 1 = _; rw [hW]; exact nI_1 (t + j)) _ (gp_inc rfl)
    have i1 : vp_in (W 95 33) 500 := by rw [hW]; exact vp_in_nI (by omega) (by decide)
    have fin : ∀ v : Int32, v = (if j < 4 then a else if j < 8 then b else if j < 12 then c else if j < 16 then e else f) → gp_Go l G (d + 0) m_Rf_feed K 71 [some (.ref 95), some (.int a), some (.int b), some (.int c), some (.int e), some (.int f), some (.int (nI j)), none] [.int v] (gv W u q) 0 0 := by
      intro v ev
      unfold gf_feS gf_byte at hp
      rw [← ev, ← gf_rem4 hj] at hp
      refine gp_go od_Rf_feed rfl ?_
      (repeat refine gp_gc [18] od_Rf_feed rfl rfl ?_)
      refine And.intro (by decide) ?_
      (repeat refine gp_gc [18] od_Rf_feed rfl rfl ?_)
      refine And.intro i1 ?_
      (repeat refine gp_gc [18] od_Rf_feed rfl rfl ?_)
      refine gp_drop 7 ?_
      exact hp
    refine gp_go od_Rf_feed rfl ?_
    (repeat refine gp_gc [18, 71] od_Rf_feed rfl rfl ?_)
    refine gb_ge_f (nI_ge hj (by decide)) ?_
    (repeat refine gp_gc [18, 71] od_Rf_feed rfl rfl ?_)
    by_cases b1 : j < 4
    · refine gb_ge_f (nI_ge b1 (by decide)) ?_
      (repeat refine gp_gc [18, 71] od_Rf_feed rfl rfl ?_)
      exact fin _ (by rw [if_pos b1])
    refine gb_ge_t (nI_le (a := 4) (by omega) (by omega)) ?_
    (repeat refine gp_gc [18, 71] od_Rf_feed rfl rfl ?_)
    by_cases b2 : j < 8
    · refine gb_ge_f (nI_ge b2 (by decide)) ?_
      (repeat refine gp_gc [18, 71] od_Rf_feed rfl rfl ?_)
      exact fin _ (by rw [if_neg b1, if_pos b2])
    refine gb_ge_t (nI_le (a := 8) (by omega) (by omega)) ?_
    (repeat refine gp_gc [18, 71] od_Rf_feed rfl rfl ?_)
    by_cases b3 : j < 12
    · refine gb_ge_f (nI_ge b3 (by decide)) ?_
      (repeat refine gp_gc [18, 71] od_Rf_feed rfl rfl ?_)
      exact fin _ (by rw [if_neg b1, if_neg b2, if_pos b3])
    refine gb_ge_t (nI_le (a := 12) (by omega) (by omega)) ?_
    (repeat refine gp_gc [18, 71] od_Rf_feed rfl rfl ?_)
    by_cases b4 : j < 16
    · refine gb_ge_f (nI_ge b4 (by decide)) ?_
      (repeat refine gp_gc [18, 71] od_Rf_feed rfl rfl ?_)
      exact fin _ (by rw [if_neg b1, if_neg b2, if_neg b3, if_pos b4])
    refine gb_ge_t (nI_le (a := 16) (by omega) (by omega)) ?_
    (repeat refine gp_gc [18, 71] od_Rf_feed rfl rfl ?_)
    exact fin _ (by rw [if_neg b1, if_neg b2, if_neg b3, if_neg b4])
  · intro hW x ex
    subst ex
    refine gp_go od_Rf_feed rfl ?_
    (repeat refine gp_gc [18, 71] od_Rf_feed rfl rfl ?_)
    refine gb_ge_t (Int32.le_refl _) ?_
    (repeat refine gp_gc [18, 71] od_Rf_feed rfl rfl ?_)
    exact h1

end
end
section
section
variable {l : Launch} {G : gp_G} {d : Nat} {w : Nat → Nat → Int32} {u : Int64 × (Nat → Int64)} {q : Nat → Nat} {K : Option Value → gp_H → Prop}
/-! ===== the reference's methods: bits and grids ===== -/
def gf_bi (v : Int32) (a f : Nat) : Nat → (Nat → Nat → Int32) → (Nat → Nat → Int32)
  | 0, W => W
  | k + 1, W => gf_bi v a f k (gw (gw W a (W 95 f).toNatClampNeg ((v >>> (nI k &&& 31)) &&& 1)) 95 f (W 95 f + 1))
theorem gp_m1 (x : Int32) : x + Int32.ofInt (-1) = x - 1 := by rw [Int32.sub_eq_add_neg]; rfl
set_option maxRecDepth 100000 in
theorem sp_Rf_bits {v n : Int32} {t : Nat} (et : w 95 50 = nI t) (ht : t ≤ 400) (hz : n = 0 → K (some (.int 0)) (gv (gw w 95 50 0) u q)) (h0 : ¬ n = 0 → ¬ ((0 ≤ n ∧ n ≤ 32) ∧ ¬ 400 < w 95 50 + n) → K (some (.int (-1))) (gv w u q)) (h1 : ∀ N, n = nI N → 1 ≤ N → N ≤ 32 → t + N ≤ 400 → K (some (.int (gf_bi v 126 50 N w 95 50))) (gv (gf_bi v 126 50 N w) u q)) : gp_Cal l G (d + 1) m_Rf_bits [.ref 95, .int v, .int n] (gv w u q) K := by
  refine gp_enter od_Rf_bits rfl ?_
  (repeat refine gp_gc [37] od_Rf_bits rfl rfl ?_)
  by_cases bz : n = 0
  · subst bz
    refine gb1_ne_f rfl ?_
    (repeat refine gp_gc [37] od_Rf_bits rfl rfl ?_)
    refine sp_Rf_isIn (fun a1 b1 => ?_) (fun n1 => ?_)
    rotate_left
    · repeat refine gp_gc [37] od_Rf_bits rfl rfl ?_
      first | refine And.intro (fun _ => ?_) (fun c => absurd rfl c) | refine And.intro (fun c => absurd rfl c) (fun _ => ?_)
      repeat refine gp_gc [37] od_Rf_bits rfl rfl ?_
      exact absurd ⟨by decide, by decide⟩ n1
    repeat refine gp_gc [37] od_Rf_bits rfl rfl ?_
    first | refine And.intro (fun c => absurd c (by decide)) (fun _ => ?_) | refine And.intro (fun _ => ?_) (fun c => absurd c (by decide))
    repeat refine gp_gc [37] od_Rf_bits rfl rfl ?_
    refine gb_le_t (by decide) ?_
    (repeat refine gp_gc [37] od_Rf_bits rfl rfl ?_)
    refine gp_go od_Rf_bits rfl ?_
    (repeat refine gp_gc [37] od_Rf_bits rfl rfl ?_)
    refine gb1_lt_t (by decide) ?_
    (repeat refine gp_gc [37] od_Rf_bits rfl rfl ?_)
    exact hz rfl
  refine gb1_ne_t bz ?_
  (repeat refine gp_gc [37] od_Rf_bits rfl rfl ?_)
  refine sp_Rf_isIn (fun a1 b1 => ?_) (fun n1 => ?_)
  rotate_left
  · repeat refine gp_gc [37] od_Rf_bits rfl rfl ?_
    first | refine And.intro (fun _ => ?_) (fun c => absurd rfl c) | refine And.intro (fun c => absurd rfl c) (fun _ => ?_)
    repeat refine gp_gc [37] od_Rf_bits rfl rfl ?_
    exact h0 bz (fun z => n1 z.1)
  repeat refine gp_gc [37] od_Rf_bits rfl rfl ?_
  first | refine And.intro (fun c => absurd c (by decide)) (fun _ => ?_) | refine And.intro (fun _ => ?_) (fun c => absurd c (by decide))
  repeat refine gp_gc [37] od_Rf_bits rfl rfl ?_
  by_cases b0 : 400 < w 95 50 + n
  · refine gb_le_f' b0 ?_
    (repeat refine gp_gc [37] od_Rf_bits rfl rfl ?_)
    exact h0 bz (fun z => z.2 b0)
  refine gb_le_t' b0 ?_
  (repeat refine gp_gc [37] od_Rf_bits rfl rfl ?_)
  obtain ⟨N, hN, eN⟩ := nI_of2 (n := 32) (M := 32) rfl (Int32.not_lt.mpr a1) b1
  have hN1 : 1 ≤ N := by
    rcases Nat.eq_zero_or_pos N with z | z
    · subst z; exact absurd eN bz
    · exact z
  have htN : t + N ≤ 400 := by
    rw [et, eN, nI_add] at b0
    exact Nat.not_lt.mp (fun z => b0 (nI_lt z (by omega)))
  have h1 := h1 N eN hN1 hN htN
  have key : ∀ (k : Nat) (W : Nat → Nat → Int32) (x : Int32), k ≤ N → x = nI k - 1 → W 95 50 = nI (t + (N - k)) → K (some (.int (gf_bi v 126 50 k W 95 50))) (gv (gf_bi v 126 50 k W) u q) → gp_Go l G (d + 1) m_Rf_bits K 37 [some (.ref 95), some (.int v), some (.int n), some (.int x)] [] (gv W u q) 0 0 := by
    intro k
    induction k with
    | zero =>
      intro W x hk ex hW h
      subst ex
      refine gp_go od_Rf_bits rfl ?_
      (repeat refine gp_gc [37] od_Rf_bits rfl rfl ?_)
      refine gb1_lt_t (by decide) ?_
      (repeat refine gp_gc [37] od_Rf_bits rfl rfl ?_)
      exact h
    | succ k ih =>
      intro W x hk ex hW h
      rw [nI_pred] at ex
      subst ex
      refine gp_go od_Rf_bits rfl ?_
      (repeat refine gp_gc [37] od_Rf_bits rfl rfl ?_)
      refine gb1_lt_f (nI_pos (by omega)) ?_
      (repeat refine gp_gc [37] od_Rf_bits rfl rfl ?_)
      refine And.intro (by rw [hW]; exact vp_in_nI (by omega) (by decide)) ?_
      (repeat refine gp_gc [37] od_Rf_bits rfl rfl ?_)
      refine ih (gw (gw W 126 (W 95 50).toNatClampNeg ((v >>> (nI k &&& 31)) &&& 1)) 95 50 (W 95 50 + 1)) _ (by omega) (gp_m1 _) ?_ h
      show W 95 50 + 1 = _
      rw [hW, nI_1]
      congr 1
      omega
  exact key N w _ (Nat.le_refl N) (by rw [eN]; rfl) (by rw [et, Nat.sub_self]; rfl) h1
set_option maxRecDepth 100000 in
theorem sp_Rf_grid {v n : Int32} {t : Nat} (et : w 95 51 = nI t) (ht : t ≤ 400) (hz : n = 0 → K (some (.int 0)) (gv (gw w 95 51 0) u q)) (h0 : ¬ n = 0 → ¬ ((0 ≤ n ∧ n ≤ 32) ∧ ¬ 400 < w 95 51 + n) → K (some (.int (-1))) (gv w u q)) (h1 : ∀ N, n = nI N → 1 ≤ N → N ≤ 32 → t + N ≤ 400 → K (some (.int (gf_bi v 127 51 N w 95 51))) (gv (gf_bi v 127 51 N w) u q)) : gp_Cal l G (d + 1) m_Rf_grid [.ref 95, .int v, .int n] (gv w u q) K := by
  refine gp_enter od_Rf_grid rfl ?_
  (repeat refine gp_gc [37] od_Rf_grid rfl rfl ?_)
  by_cases bz : n = 0
  · subst bz
    refine gb1_ne_f rfl ?_
    (repeat refine gp_gc [37] od_Rf_grid rfl rfl ?_)
    refine sp_Rf_isIn (fun a1 b1 => ?_) (fun n1 => ?_)
    rotate_left
    · repeat refine gp_gc [37] od_Rf_grid rfl rfl ?_
      first | refine And.intro (fun _ => ?_) (fun c => absurd rfl c) | refine And.intro (fun c => absurd rfl c) (fun _ => ?_)
      repeat refine gp_gc [37] od_Rf_grid rfl rfl ?_
      exact absurd ⟨by decide, by decide⟩ n1
    repeat refine gp_gc [37] od_Rf_grid rfl rfl ?_
    first | refine And.intro (fun c => absurd c (by decide)) (fun _ => ?_) | refine And.intro (fun _ => ?_) (fun c => absurd c (by decide))
    repeat refine gp_gc [37] od_Rf_grid rfl rfl ?_
    refine gb_le_t (by decide) ?_
    (repeat refine gp_gc [37] od_Rf_grid rfl rfl ?_)
    refine gp_go od_Rf_grid rfl ?_
    (repeat refine gp_gc [37] od_Rf_grid rfl rfl ?_)
    refine gb1_lt_t (by decide) ?_
    (repeat refine gp_gc [37] od_Rf_grid rfl rfl ?_)
    exact hz rfl
  refine gb1_ne_t bz ?_
  (repeat refine gp_gc [37] od_Rf_grid rfl rfl ?_)
  refine sp_Rf_isIn (fun a1 b1 => ?_) (fun n1 => ?_)
  rotate_left
  · repeat refine gp_gc [37] od_Rf_grid rfl rfl ?_
    first | refine And.intro (fun _ => ?_) (fun c => absurd rfl c) | refine And.intro (fun c => absurd rfl c) (fun _ => ?_)
    repeat refine gp_gc [37] od_Rf_grid rfl rfl ?_
    exact h0 bz (fun z => n1 z.1)
  repeat refine gp_gc [37] od_Rf_grid rfl rfl ?_
  first | refine And.intro (fun c => absurd c (by decide)) (fun _ => ?_) | refine And.intro (fun _ => ?_) (fun c => absurd c (by decide))
  repeat refine gp_gc [37] od_Rf_grid rfl rfl ?_
  by_cases b0 : 400 < w 95 51 + n
  · refine gb_le_f' b0 ?_
    (repeat refine gp_gc [37] od_Rf_grid rfl rfl ?_)
    exact h0 bz (fun z => z.2 b0)
  refine gb_le_t' b0 ?_
  (repeat refine gp_gc [37] od_Rf_grid rfl rfl ?_)
  obtain ⟨N, hN, eN⟩ := nI_of2 (n := 32) (M := 32) rfl (Int32.not_lt.mpr a1) b1
  have hN1 : 1 ≤ N := by
    rcases Nat.eq_zero_or_pos N with z | z
    · subst z; exact absurd eN bz
    · exact z
  have htN : t + N ≤ 400 := by
    rw [et, eN, nI_add] at b0
    exact Nat.not_lt.mp (fun z => b0 (nI_lt z (by omega)))
  have h1 := h1 N eN hN1 hN htN
  have key : ∀ (k : Nat) (W : Nat → Nat → Int32) (x : Int32), k ≤ N → x = nI k - 1 → W 95 51 = nI (t + (N - k)) → K (some (.int (gf_bi v 127 51 k W 95 51))) (gv (gf_bi v 127 51 k W) u q) → gp_Go l G (d + 1) m_Rf_grid K 37 [some (.ref 95), some (.int v), some (.int n), some (.int x)] [] (gv W u q) 0 0 := by
    intro k
    induction k with
    | zero =>
      intro W x hk ex hW h
      subst ex
      refine gp_go od_Rf_grid rfl ?_
      (repeat refine gp_gc [37] od_Rf_grid rfl rfl ?_)
      refine gb1_lt_t (by decide) ?_
      (repeat refine gp_gc [37] od_Rf_grid rfl rfl ?_)
      exact h
    | succ k ih =>
      intro W x hk ex hW h
      rw [nI_pred] at ex
      subst ex
      refine gp_go od_Rf_grid rfl ?_
      (repeat refine gp_gc [37] od_Rf_grid rfl rfl ?_)
      refine gb1_lt_f (nI_pos (by omega)) ?_
      (repeat refine gp_gc [37] od_Rf_grid rfl rfl ?_)
      refine And.intro (by rw [hW]; exact vp_in_nI (by omega) (by decide)) ?_
      (repeat refine gp_gc [37] od_Rf_grid rfl rfl ?_)
      refine ih (gw (gw W 127 (W 95 51).toNatClampNeg ((v >>> (nI k &&& 31)) &&& 1)) 95 51 (W 95 51 + 1)) _ (by omega) (gp_m1 _) ?_ h
      show W 95 51 + 1 = _
      rw [hW, nI_1]
      congr 1
      omega
  exact key N w _ (Nat.le_refl N) (by rw [eN]; rfl) (by rw [et, Nat.sub_self]; rfl) h1
set_option maxRecDepth 100000 in
theorem sp_Rf_isWidth {x : Int32} (h1 : 1 < x → x < w 95 50 → w 95 50 - w 95 50 / x * x = 0 → K (some (.int 1)) (gv w u q)) (h0 : ¬ (1 < x ∧ x < w 95 50 ∧ w 95 50 - w 95 50 / x * x = 0) → K (some (.int 0)) (gv w u q)) : gp_Cal l G (d + 0) m_Rf_isWidth [.ref 95, .int x] (gv w u q) K := by
  refine gp_enter od_Rf_isWidth rfl ?_
  (repeat refine gp_gc [] od_Rf_isWidth rfl rfl ?_)
  by_cases b1 : 1 < x
  rotate_left
  · refine gb_le_t' b1 ?_
    (repeat refine gp_gc [] od_Rf_isWidth rfl rfl ?_)
    exact And.intro (Or.inl rfl) (h0 (fun z => b1 z.1))
  refine gb_le_f' b1 ?_
  (repeat refine gp_gc [] od_Rf_isWidth rfl rfl ?_)
  by_cases b2 : x < w 95 50
  rotate_left
  · refine gb_ge_t' b2 ?_
    (repeat refine gp_gc [] od_Rf_isWidth rfl rfl ?_)
    exact And.intro (Or.inl rfl) (h0 (fun z => b2 z.2.1))
  refine gb_ge_f' b2 ?_
  (repeat refine gp_gc [] od_Rf_isWidth rfl rfl ?_)
  refine And.intro (fun e => by subst e; exact absurd b1 (by decide)) ?_
  (repeat refine gp_gc [] od_Rf_isWidth rfl rfl ?_)
  by_cases b3 : w 95 50 - w 95 50 / x * x = 0
  · refine gb1_ne_f b3 ?_
    (repeat refine gp_gc [] od_Rf_isWidth rfl rfl ?_)
    exact And.intro (Or.inr rfl) (h1 b1 b2 b3)
  · refine gb1_ne_t b3 ?_
    (repeat refine gp_gc [] od_Rf_isWidth rfl rfl ?_)
    exact And.intro (Or.inl rfl) (h0 (fun z => b3 z.2.2))
def gf_laid (w : Nat → Nat → Int32) (k wd y x : Int32) : Int32 := w 126 (wd * y + (if w 109 k.toNatClampNeg = 0 then x else wd - 1 - x)).toNatClampNeg
set_option maxRecDepth 100000 in
theorem sp_Rf_laidAt {k wd y x : Int32} (i0 : vp_in k 7) (i1 : vp_in (wd * y + (if w 109 k.toNatClampNeg = 0 then x else wd - 1 - x)) 400) (h : K (some (.int (gf_laid w k wd y x))) (gv w u q)) : gp_Cal l G (d + 0) m_Rf_laidAt [.ref 95, .int k, .int wd, .int y, .int x] (gv w u q) K := by
  refine gp_enter od_Rf_laidAt rfl ?_
  unfold gf_laid at h
  (repeat refine gp_gc [] od_Rf_laidAt rfl rfl ?_)
  refine And.intro i0 ?_
  (repeat refine gp_gc [] od_Rf_laidAt rfl rfl ?_)
  by_cases b : w 109 k.toNatClampNeg = 0
  · rw [if_pos b] at i1 h
    refine gb1_ne_f b ?_
    (repeat refine gp_gc [] od_Rf_laidAt rfl rfl ?_)
    refine And.intro i1 ?_
    (repeat refine gp_gc [] od_Rf_laidAt rfl rfl ?_)
    exact h
  · rw [if_neg b] at i1 h
    refine gb1_ne_t b ?_
    (repeat refine gp_gc [] od_Rf_laidAt rfl rfl ?_)
    refine And.intro i1 ?_
    (repeat refine gp_gc [] od_Rf_laidAt rfl rfl ?_)
    exact h
/-- the places of a grid of a columns -/
theorem gf_ix {wd y x : Int32} {a b i j : Nat} {c : Prop} {inst : Decidable c} (ew : wd = nI a) (ey : y = nI i) (ex : x = nI j) (hi : i < b) (hj : j < a) (hab : a * b ≤ 400) : vp_in (wd * y + (@ite _ c inst x (wd - 1 - x))) 400 := by
  have h1 : a * i + a ≤ a * b := by
    have : a * (i + 1) ≤ a * b := Nat.mul_le_mul_left a hi
    rw [Nat.mul_add, Nat.mul_one] at this
    exact this
  have e1 : wd * y = nI (a * i) := by rw [ew, ey]; exact pk_mul a i
  have e2 : wd - 1 - x = nI (a - 1 - j) := by
    rw [ew, ex]
    have : nI a - 1 = nI (a - 1) := pk_sub (b := 1) (by omega)
    rw [this]
    exact pk_sub (by omega)
  by_cases hc : c
  · rw [if_pos hc, e1, ex, nI_add]
    exact vp_in_nI (by omega) (by decide)
  · rw [if_neg hc, e1, e2, nI_add]
    exact vp_in_nI (by omega) (by decide)
def gf_edS (w : Nat → Nat → Int32) (k wd : Int32) (i j : Nat) (n : Int32) : Int32 := n + (if 0 < nI j ∧ ¬ gf_laid w k wd (nI i) (nI j) = gf_laid w k wd (nI i) (nI j - 1) then 1 else 0) + (if 0 < nI i ∧ ¬ gf_laid w k wd (nI i) (nI j) = gf_laid w k wd (nI i - 1) (nI j) then 1 else 0)
def gf_edR (w : Nat → Nat → Int32) (k wd : Int32) (a i : Nat) (n : Int32) : Int32 := gp_it (gf_edS w k wd i) 0 a n
def gf_edges (w : Nat → Nat → Int32) (k wd : Int32) (a b : Nat) : Int32 := gp_it (gf_edR w k wd a) 0 b 0
set_option maxRecDepth 100000 in
theorem gl_Rf_edges {k wd hh : Int32} {a b : Nat} (i0 : vp_in k 7) (ew : wd = nI a) (eh : hh = nI b) (hab : a * b ≤ 400) (ha : 0 < a) (hb : 0 < b) {i : Nat} (hi : i < b) (n0 : Int32) (hp : gp_Go l G (d + 1) m_Rf_edges K 13 [some (.ref 95), some (.int k), some (.int wd), some (.int hh), some (.int (gf_edR w k wd a i n0)), some (.int (nI (i + 1))), none] [] (gv w u q) 0 0) : gp_Go l G (d + 1) m_Rf_edges K 22 [some (.ref 95), some (.int k), some (.int wd), some (.int hh), some (.int n0), some (.int (nI i)), some (.int 0)] [] (gv w u q) 0 0 := by
  have ha4 : a ≤ 400 := Nat.le_trans (Nat.le_mul_of_pos_right a hb) hab
  have hb4 : b ≤ 400 := Nat.le_trans (Nat.le_mul_of_pos_left b ha) hab
  refine gp_iter (P := fun j n => ∀ x, x = nI j → gp_Go l G (d + 1) m_Rf_edges K 22 [some (.ref 95), some (.int k), some (.int wd), some (.int hh), some (.int n), some (.int (nI i)), some (.int x)] [] (gv w u q) 0 0) (gf_edS w k wd i) a ?_ a 0 n0 (by omega) ?_ 0 rfl
  · intro j n hj hq x ex
    subst ex
    have hq := hq _ (gp_inc rfl)
    unfold gf_edS at hq
    have snd : ∀ n1 : Int32, gp_Go l G (d + 1) m_Rf_edges K 22 [some (.ref 95), some (.int k), some (.int wd), some (.int hh), some (.int (n1 + (if 0 < nI i ∧ ¬ gf_laid w k wd (nI i) (nI j) = gf_laid w k wd (nI i - 1) (nI j) then 1 else 0))), some (.int (nI i)), some (.int (nI j + Int32.ofInt 1))] [] (gv w u q) 0 0 → gp_Go l G (d + 1) m_Rf_edges K 68 [some (.ref 95), some (.int k), some (.int wd), some (.int hh), some (.int n1), some (.int (nI i)), some (.int (nI j))] [] (gv w u q) 0 0 := by
      intro n1 hq
      refine gp_go od_Rf_edges rfl ?_
      (repeat refine gp_gc [13, 22, 68] od_Rf_edges rfl rfl ?_)
      by_cases b1 : 0 < nI i
      rotate_left
      · rw [if_neg (fun z => b1 z.1)] at hq
        refine gb1_le_t' b1 ?_
        (repeat refine gp_gc [13, 22, 68] od_Rf_edges rfl rfl ?_)
        exact hq
      have hi1 : 1 ≤ i := by
        rcases Nat.eq_zero_or_pos i with z | z
        · subst z; exact absurd b1 (by decide)
        · exact z
      have ei : nI i - 1 = nI (i - 1) := pk_sub (b := 1) hi1
      refine gb1_le_f' b1 ?_
      (repeat refine gp_gc [13, 22, 68] od_Rf_edges rfl rfl ?_)
      refine sp_Rf_laidAt (d := d) i0 (gf_ix ew rfl rfl hi hj hab) ?_
      (repeat refine gp_gc [13, 22, 68] od_Rf_edges rfl rfl ?_)
      refine sp_Rf_laidAt (d := d) i0 (gf_ix (i := i - 1) ew ei rfl (by omega) hj hab) ?_
      (repeat refine gp_gc [13, 22, 68] od_Rf_edges rfl rfl ?_)
      by_cases b2 : gf_laid w k wd (nI i) (nI j) = gf_laid w k wd (nI i - 1) (nI j)
      · rw [if_neg (fun z => z.2 b2)] at hq
        refine gb_eq_t b2 ?_
        (repeat refine gp_gc [13, 22, 68] od_Rf_edges rfl rfl ?_)
        exact hq
      · rw [if_pos ⟨b1, b2⟩] at hq
        refine gb_eq_f b2 ?_
        (repeat refine gp_gc [13, 22, 68] od_Rf_edges rfl rfl ?_)
        exact hq
    refine gp_go od_Rf_edges rfl ?_
    (repeat refine gp_gc [13, 22, 68] od_Rf_edges rfl rfl ?_)
    refine gb_ge_f (by rw [ew]; exact nI_ge hj (by omega)) ?_
    (repeat refine gp_gc [13, 22, 68] od_Rf_edges rfl rfl ?_)
    by_cases b1 : 0 < nI j
    rotate_left
    · have c2 : ¬ (0 < nI j ∧ ¬ gf_laid w k wd (nI i) (nI j) = gf_laid w k wd (nI i) (nI j - 1)) := fun z => b1 z.1
      rw [if_neg c2] at hq
      refine gb1_le_t' b1 ?_
      (repeat refine gp_gc [13, 22, 68] od_Rf_edges rfl rfl ?_)
      exact snd _ hq
    have hj1 : 1 ≤ j := by
      rcases Nat.eq_zero_or_pos j with z | z
      · subst z; exact absurd b1 (by decide)
      · exact z
    have ej : nI j - 1 = nI (j - 1) := pk_sub (b := 1) hj1
    refine gb1_le_f' b1 ?_
    (repeat refine gp_gc [13, 22, 68] od_Rf_edges rfl rfl ?_)
    refine sp_Rf_laidAt (d := d) i0 (gf_ix ew rfl rfl hi hj hab) ?_
    (repeat refine gp_gc [13, 22, 68] od_Rf_edges rfl rfl ?_)
    refine sp_Rf_laidAt (d := d) i0 (gf_ix (j := j - 1) ew rfl ej hi (by omega) hab) ?_
    (repeat refine gp_gc [13, 22, 68] od_Rf_edges rfl rfl ?_)
    by_cases b2 : gf_laid w k wd (nI i) (nI j) = gf_laid w k wd (nI i) (nI j - 1)
    · have c2 : ¬ (0 < nI j ∧ ¬ gf_laid w k wd (nI i) (nI j) = gf_laid w k wd (nI i) (nI j - 1)) := fun z => z.2 b2
      rw [if_neg c2] at hq
      refine gb_eq_t b2 ?_
      (repeat refine gp_gc [13, 22, 68] od_Rf_edges rfl rfl ?_)
      exact snd _ hq
    · rw [if_pos ⟨b1, b2⟩] at hq
      refine gb_eq_f b2 ?_
      (repeat refine gp_gc [13, 22, 68] od_Rf_edges rfl rfl ?_)
      exact snd _ hq
  · intro x ex
    subst ex
    refine gp_go od_Rf_edges rfl ?_
    (repeat refine gp_gc [13, 22, 68] od_Rf_edges rfl rfl ?_)
    refine gb_ge_t (by rw [ew]; exact Int32.le_refl _) ?_
    (repeat refine gp_gc [13, 22, 68] od_Rf_edges rfl rfl ?_)
    refine gp_drop 6 ?_
    have e1 : nI i + Int32.ofInt 1 = nI (i + 1) := gp_inc rfl
    rw [e1]
    exact hp
set_option maxRecDepth 100000 in
theorem sp_Rf_edges {k wd : Int32} {a b : Nat} (i0 : vp_in k 7) (ew : wd = nI a) (eN : w 95 50 = nI (a * b)) (hab : a * b ≤ 400) (ha : 0 < a) (hb : 0 < b) (h : K (some (.int (gf_edges w k wd a b))) (gv w u q)) : gp_Cal l G (d + 1) m_Rf_edges [.ref 95, .int k, .int wd] (gv w u q) K := by
  refine gp_enter od_Rf_edges rfl ?_
  have ha4 : a ≤ 400 := Nat.le_trans (Nat.le_mul_of_pos_right a hb) hab
  have hb4 : b ≤ 400 := Nat.le_trans (Nat.le_mul_of_pos_left b ha) hab
  have eh : w 95 50 / wd = nI b := by rw [eN, ew, pk_div (by omega) ha (by omega), Nat.mul_div_cancel_left b ha]
  (repeat refine gp_gc [13, 22, 68] od_Rf_edges rfl rfl ?_)
  refine And.intro (by rw [ew]; exact nI_ne0 ha (by omega)) ?_
  (repeat refine gp_gc [13, 22, 68] od_Rf_edges rfl rfl ?_)
  rw [eh]
  refine gp_iter (P := fun j n => ∀ x, x = nI j → gp_Go l G (d + 1) m_Rf_edges K 13 [some (.ref 95), some (.int k), some (.int wd), some (.int (nI b)), some (.int n), some (.int x), none] [] (gv w u q) 0 0) (gf_edR w k wd a) b ?_ b 0 0 (by omega) ?_ 0 rfl
  · intro i n hi hp x ex
    subst ex
    refine gp_go od_Rf_edges rfl ?_
    (repeat refine gp_gc [13, 22, 68] od_Rf_edges rfl rfl ?_)
    refine gb_ge_f (nI_ge hi (by omega)) ?_
    (repeat refine gp_gc [13, 22, 68] od_Rf_edges rfl rfl ?_)
    exact gl_Rf_edges i0 ew rfl hab ha hb hi n (hp _ rfl)
  · intro x ex
    subst ex
    refine gp_go od_Rf_edges rfl ?_
    (repeat refine gp_gc [13, 22, 68] od_Rf_edges rfl rfl ?_)
    refine gb_ge_t (Int32.le_refl _) ?_
    (repeat refine gp_gc [13, 22, 68] od_Rf_edges rfl rfl ?_)
    exact h

end
end
section
section
variable {l : Launch} {G : gp_G} {d : Nat} {w : Nat → Nat → Int32} {u : Int64 × (Nat → Int64)} {q : Nat → Nat} {K : Option Value → gp_H → Prop}
/-! ===== the reference's methods: primes, grids laid, times, places ===== -/
set_option maxRecDepth 100000 in
theorem sp_Rf_isPrime {v : Int32} {n : Nat} (ev : v = nI n) (hn : n < 2 ^ 30) (h1 : (∀ e, 2 ≤ e → e < n → ¬ n % e = 0) → 1 < n → K (some (.int 1)) (gv w u q)) (h0 : ¬ ((∀ e, 2 ≤ e → e < n → ¬ n % e = 0) ∧ 1 < n) → K (some (.int 0)) (gv w u q)) : gp_Cal l G (d + 0) m_Rf_isPrime [.int v] (gv w u q) K := by
  refine gp_enter od_Rf_isPrime rfl ?_
  subst ev
  (repeat refine gp_gc [2] od_Rf_isPrime rfl rfl ?_)
  have fin : ∀ (j : Nat), n ≤ j → j < 2 ^ 31 → (∀ t, 2 ≤ t → t < j → t < n → ¬ n % t = 0) → gp_Go l G (d + 0) m_Rf_isPrime K 2 [some (.int (nI n)), some (.int (nI j))] [] (gv w u q) 0 0 := by
    intro j hj hj2 hall
    refine gp_go od_Rf_isPrime rfl ?_
    (repeat refine gp_gc [2] od_Rf_isPrime rfl rfl ?_)
    refine gb_ge_t (nI_le hj hj2) ?_
    (repeat refine gp_gc [2] od_Rf_isPrime rfl rfl ?_)
    by_cases b : 1 < n
    · refine gb_le_f' (nI_lt (a := 1) b (by omega)) ?_
      (repeat refine gp_gc [2] od_Rf_isPrime rfl rfl ?_)
      exact And.intro (Or.inr rfl) (h1 (fun t a c => hall t a (by omega) c) b)
    · refine gb_le_t' (nI_nlt (b := n) (a := 1) (by omega) (by decide)) ?_
      (repeat refine gp_gc [2] od_Rf_isPrime rfl rfl ?_)
      exact And.intro (Or.inl rfl) (h0 (fun z => b z.2))
  have key : ∀ (r j : Nat), j + r = n → 2 ≤ j → (∀ t, 2 ≤ t → t < j → t < n → ¬ n % t = 0) → gp_Go l G (d + 0) m_Rf_isPrime K 2 [some (.int (nI n)), some (.int (nI j))] [] (gv w u q) 0 0 := by
    intro r
    induction r with
    | zero => intro j hj h2 hall; exact fin j (by omega) (by omega) hall
    | succ r ih =>
      intro j hj h2 hall
      have e1 : nI n - nI n / nI j * nI j = nI (n % j) := pk_rem (by omega) (by omega) (by omega)
      have hm : n % j < 2 ^ 31 := Nat.lt_of_lt_of_le (Nat.mod_lt n (by omega)) (by omega)
      refine gp_go od_Rf_isPrime rfl ?_
      (repeat refine gp_gc [2] od_Rf_isPrime rfl rfl ?_)
      refine gb_ge_f (nI_ge (by omega) (by omega)) ?_
      (repeat refine gp_gc [2] od_Rf_isPrime rfl rfl ?_)
      refine And.intro (nI_ne0 (by omega) (by omega)) ?_
      (repeat refine gp_gc [2] od_Rf_isPrime rfl rfl ?_)
      rw [e1]
      by_cases b : n % j = 0
      · refine gb1_ne_f (by rw [b]; rfl) ?_
        (repeat refine gp_gc [2] od_Rf_isPrime rfl rfl ?_)
        exact And.intro (Or.inl rfl) (h0 (fun z => z.1 j h2 (by omega) b))
      · refine gb1_ne_t (nI_ne0 (Nat.pos_of_ne_zero b) hm) ?_
        (repeat refine gp_gc [2] od_Rf_isPrime rfl rfl ?_)
        have e2 : nI j + Int32.ofInt 1 = nI (j + 1) := gp_inc rfl
        rw [e2]
        refine ih (j + 1) (by omega) (by omega) (fun t a c c2 => ?_)
        by_cases et : t = j
        · rw [et]; exact b
        · exact hall t a (by omega) c2
  by_cases b : 2 ≤ n
  · exact key (n - 2) 2 (by omega) (by omega) (fun t a c => absurd c (by omega))
  · exact fin 2 (by omega) (by decide) (fun t a c => absurd c (by omega))
set_option maxRecDepth 100000 in
theorem sp_Rf_distance {dx dy : Int32} {D : Nat} (eD : dx * dx + dy * dy = nI D) (hD : D < 10000) (h : ∀ r, r * r ≤ D → D < (r + 1) * (r + 1) → K (some (.int (nI r))) (gv w u q)) : gp_Cal l G (d + 0) m_Rf_distance [.int dx, .int dy] (gv w u q) K := by
  refine gp_enter od_Rf_distance rfl ?_
  (repeat refine gp_gc [2] od_Rf_distance rfl rfl ?_)
  have key : ∀ (f r : Nat), r + f = 100 → r * r ≤ D → gp_Go l G (d + 0) m_Rf_distance K 2 [some (.int dx), some (.int dy), some (.int (nI r))] [] (gv w u q) 0 0 := by
    intro f
    induction f with
    | zero =>
      intro r hr hs
      have : r = 100 := by omega
      subst this
      omega
    | succ f ih =>
      intro r hr hs
      have e1 : nI r + Int32.ofInt 1 = nI (r + 1) := gp_inc rfl
      have e2 : (nI r + Int32.ofInt 1) * (nI r + Int32.ofInt 1) = nI ((r + 1) * (r + 1)) := by rw [e1]; exact pk_mul _ _
      have hb : (r + 1) * (r + 1) ≤ 100 * 100 := Nat.mul_le_mul (by omega) (by omega)
      refine gp_go od_Rf_distance rfl ?_
      (repeat refine gp_gc [2] od_Rf_distance rfl rfl ?_)
      rw [e2, eD]
      by_cases b : D < (r + 1) * (r + 1)
      · refine gb_gt_t (nI_lt b (by omega)) ?_
        (repeat refine gp_gc [2] od_Rf_distance rfl rfl ?_)
        exact h r hs b
      · refine gb_gt_f (nI_nlt (by omega) (by omega)) ?_
        (repeat refine gp_gc [2] od_Rf_distance rfl rfl ?_)
        rw [e1]
        exact ih (r + 1) (by omega) (by omega)
  exact key 100 0 (by omega) (by omega)
abbrev gf_P (w : Nat → Nat → Int32) (y : Int32) (b : Nat) : Int64 := (w 130 b).toInt64 + (w 130 b).toInt64 * (w 131 b).toInt64 * y.toInt64 / 1000000
abbrev gf_thC (w : Nat → Nat → Int32) (y : Int32) (b : Nat) : Prop := w 134 b = -1 ∨ (¬ lg_cmp (gf_P w y b) (w 134 b).toInt64 < 0 ∧ lg_cmp (gf_P w y b) (w 135 b).toInt64 ≤ 0)
set_option maxRecDepth 100000 in
theorem sp_Rf_isThen {y : Int32} {n : Nat} (en : w 95 57 = nI n) (hn : n ≤ 14) (h1 : (∀ b, b < n → gf_thC w y b) → K (some (.int 1)) (gv w u q)) (h0 : ¬ (∀ b, b < n → gf_thC w y b) → K (some (.int 0)) (gv w u q)) : gp_Cal l G (d + 0) m_Rf_isThen [.ref 95, .int y] (gv w u q) K := by
  refine gp_enter od_Rf_isThen rfl ?_
  (repeat refine gp_gc [2] od_Rf_isThen rfl rfl ?_)
  have key : ∀ (r j : Nat) (x : Int32), j + r = n → x = nI j → (∀ t, t < j → gf_thC w y t) → gp_Go l G (d + 0) m_Rf_isThen K 2 [some (.ref 95), some (.int y), some (.int x), none, none] [] (gv w u q) 0 0 := by
    intro r
    induction r with
    | zero =>
      intro j x hj ex hall
      subst ex
      refine gp_go od_Rf_isThen rfl ?_
      (repeat refine gp_gc [2] od_Rf_isThen rfl rfl ?_)
      refine gb_ge_t (by rw [en]; exact nI_le (by omega) (by omega)) ?_
      (repeat refine gp_gc [2] od_Rf_isThen rfl rfl ?_)
      exact And.intro (Or.inr rfl) (h1 (fun t ht => hall t (by omega)))
    | succ r ih =>
      intro j x hj ex hall
      subst ex
      have ec : (nI j).toNatClampNeg = j := nI_clamp (by omega)
      have i1 : vp_in (nI j) 14 := vp_in_nI (by omega) (by decide)
      refine gp_go od_Rf_isThen rfl ?_
      (repeat refine gp_gc [2] od_Rf_isThen rfl rfl ?_)
      refine gb_ge_f (by rw [en]; exact nI_ge (by omega) (by omega)) ?_
      (repeat refine gp_gc [2] od_Rf_isThen rfl rfl ?_)
      refine And.intro i1 ?_
      (repeat refine gp_gc [2] od_Rf_isThen rfl rfl ?_)
      rw [ec]
      by_cases b0 : w 134 j = -1
      · refine gb_ne_f b0 ?_
        (repeat refine gp_gc [2] od_Rf_isThen rfl rfl ?_)
        exact ih (j + 1) _ (by omega) (gp_inc rfl) (lt_s hall (Or.inl b0))
      refine gb_ne_t b0 ?_
      (repeat refine gp_gc [2] od_Rf_isThen rfl rfl ?_)
      refine And.intro i1 ?_
      (repeat refine gp_gc [2] od_Rf_isThen rfl rfl ?_)
      refine And.intro i1 ?_
      (repeat refine gp_gc [2] od_Rf_isThen rfl rfl ?_)
      refine And.intro i1 ?_
      (repeat refine gp_gc [2] od_Rf_isThen rfl rfl ?_)
      refine And.intro (by decide) ?_
      (repeat refine gp_gc [2] od_Rf_isThen rfl rfl ?_)
      refine And.intro i1 ?_
      (repeat refine gp_gc [2] od_Rf_isThen rfl rfl ?_)
      rw [ec]
      by_cases b1 : lg_cmp (gf_P w y j) (w 134 j).toInt64 < 0
      · refine gb1_lt_t b1 ?_
        (repeat refine gp_gc [2] od_Rf_isThen rfl rfl ?_)
        exact And.intro (Or.inl rfl) (h0 (fun z => (z j (by omega)).elim b0 (fun z => z.1 b1)))
      refine gb1_lt_f b1 ?_
      (repeat refine gp_gc [2] od_Rf_isThen rfl rfl ?_)
      refine And.intro i1 ?_
      (repeat refine gp_gc [2] od_Rf_isThen rfl rfl ?_)
      rw [ec]
      by_cases b2 : lg_cmp (gf_P w y j) (w 135 j).toInt64 ≤ 0
      · refine gb1_le_t b2 ?_
        (repeat refine gp_gc [2] od_Rf_isThen rfl rfl ?_)
        refine gp_drop 3 ?_
        exact ih (j + 1) _ (by omega) (gp_inc rfl) (lt_s hall (Or.inr ⟨b1, b2⟩))
      · refine gb1_le_f b2 ?_
        (repeat refine gp_gc [2] od_Rf_isThen rfl rfl ?_)
        exact And.intro (Or.inl rfl) (h0 (fun z => (z j (by omega)).elim b0 (fun z => b2 z.2)))
  exact key n 0 _ (by omega) rfl (fun t ht => absurd ht (by omega))
/-- the years that fit: how many, the first, the last -/
def gf_yrS (C : Nat → Prop) (dc : ∀ y, Decidable (C y)) (y : Nat) (s : Int32 × Int32 × Int32) : Int32 × Int32 × Int32 := @ite _ (C y) (dc y) (s.1 + 1, (if s.2.1 = -1 then nI y else s.2.1), nI y) s
set_option maxRecDepth 100000 in
theorem sp_Rf_years {what : Int32} {n : Nat} (en : w 95 57 = nI n) (hn : n ≤ 14) (dc : ∀ y : Nat, Decidable (∀ b, b < n → gf_thC w (nI y) b)) (h0 : ¬ (0 ≤ what ∧ what ≤ 2) → K (some (.int (-1))) (gv w u q)) (h1 : 0 ≤ what ∧ what ≤ 2 → (∃ b, b < n ∧ ¬ w 134 b = -1) → ∀ s : Int32 × Int32 × Int32, s = gp_it (gf_yrS (fun y => ∀ b, b < n → gf_thC w (nI y) b) dc) 0 1000 (0, -1, -1) → K (some (.int (if what = 0 then s.2.1 else if what = 1 then s.2.2 else s.1))) (gv w u q)) (h2 : 0 ≤ what ∧ what ≤ 2 → ¬ (∃ b, b < n ∧ ¬ w 134 b = -1) → K (some (.int (if what = 0 then -1 else if what = 1 then -1 else 0))) (gv w u q)) : gp_Cal l G (d + 1) m_Rf_years [.ref 95, .int what] (gv w u q) K := by
  refine gp_enter od_Rf_years rfl ?_
  (repeat refine gp_gc [15, 60, 112] od_Rf_years rfl rfl ?_)
  refine sp_Rf_isIn (fun a1 b1 => ?_) (fun n1 => ?_)
  rotate_left
  · repeat refine gp_gc [15, 60, 112] od_Rf_years rfl rfl ?_
    first | refine And.intro (fun _ => ?_) (fun c => absurd rfl c) | refine And.intro (fun c => absurd rfl c) (fun _ => ?_)
    repeat refine gp_gc [15, 60, 112] od_Rf_years rfl rfl ?_
    exact h0 n1
  repeat refine gp_gc [15, 60, 112] od_Rf_years rfl rfl ?_
  first | refine And.intro (fun c => absurd c (by decide)) (fun _ => ?_) | refine And.intro (fun _ => ?_) (fun c => absurd c (by decide))
  repeat refine gp_gc [15, 60, 112] od_Rf_years rfl rfl ?_
  have fin : ∀ (some' x : Int32) (s : Int32 × Int32 × Int32), K (some (.int (if what = 0 then s.2.1 else if what = 1 then s.2.2 else s.1))) (gv w u q) → gp_Go l G (d + 1) m_Rf_years K 112 [some (.ref 95), some (.int what), some (.int some'), some (.int s.1), some (.int s.2.1), some (.int s.2.2), some (.int x)] [] (gv w u q) 0 0 := by
    intro some' x s h
    refine gp_go od_Rf_years rfl ?_
    (repeat refine gp_gc [15, 60, 112] od_Rf_years rfl rfl ?_)
    by_cases c : what = 0
    · rw [if_pos c] at h
      refine gb1_ne_f c ?_
      (repeat refine gp_gc [15, 60, 112] od_Rf_years rfl rfl ?_)
      exact h
    rw [if_neg c] at h
    refine gb1_ne_t c ?_
    (repeat refine gp_gc [15, 60, 112] od_Rf_years rfl rfl ?_)
    by_cases c2 : what = 1
    · rw [if_pos c2] at h
      refine gb_ne_f c2 ?_
      (repeat refine gp_gc [15, 60, 112] od_Rf_years rfl rfl ?_)
      exact h
    · rw [if_neg c2] at h
      refine gb_ne_t c2 ?_
      (repeat refine gp_gc [15, 60, 112] od_Rf_years rfl rfl ?_)
      exact h
  have none' : ¬ (∃ b, b < n ∧ ¬ w 134 b = -1) → gp_Go l G (d + 1) m_Rf_years K 60 [some (.ref 95), some (.int what), some (.int 0), some (.int 0), some (.int (-1)), some (.int (-1)), some (.int 0)] [] (gv w u q) 0 0 := by
    intro hno
    refine gp_go od_Rf_years rfl ?_
    (repeat refine gp_gc [15, 60, 112] od_Rf_years rfl rfl ?_)
    refine gb_gt_f (by decide) ?_
    (repeat refine gp_gc [15, 60, 112] od_Rf_years rfl rfl ?_)
    refine gb1_eq_t rfl ?_
    (repeat refine gp_gc [15, 60, 112] od_Rf_years rfl rfl ?_)
    exact fin 0 0 (0, -1, -1) (h2 ⟨a1, b1⟩ hno)
  have some' : (∃ b, b < n ∧ ¬ w 134 b = -1) → gp_Go l G (d + 1) m_Rf_years K 60 [some (.ref 95), some (.int what), some (.int 1), some (.int 0), some (.int (-1)), some (.int (-1)), some (.int 0)] [] (gv w u q) 0 0 := by
    intro hso
    refine gp_iter (P := fun j s => ∀ x, x = nI j → gp_Go l G (d + 1) m_Rf_years K 60 [some (.ref 95), some (.int what), some (.int 1), some (.int s.1), some (.int s.2.1), some (.int s.2.2), some (.int x)] [] (gv w u q) 0 0) (gf_yrS (fun y => ∀ b, b < n → gf_thC w (nI y) b) dc) 1000 ?_ 1000 0 (0, -1, -1) (by omega) ?_ 0 rfl
    · intro j s hj hp x ex
      subst ex
      have hp := hp _ (gp_inc rfl)
      unfold gf_yrS at hp
      refine gp_go od_Rf_years rfl ?_
      (repeat refine gp_gc [15, 60, 112] od_Rf_years rfl rfl ?_)
      refine gb_gt_f (nI_nlt (b := j) (a := 999) (by omega) (by decide)) ?_
      (repeat refine gp_gc [15, 60, 112] od_Rf_years rfl rfl ?_)
      refine gb1_eq_f (by decide) ?_
      (repeat refine gp_gc [15, 60, 112] od_Rf_years rfl rfl ?_)
      refine sp_Rf_isThen (d := d) en hn (fun z => ?_) (fun z => ?_)
      · rw [if_pos z] at hp
        (repeat refine gp_gc [15, 60, 112] od_Rf_years rfl rfl ?_)
        refine gb1_ne_t (by decide) ?_
        (repeat refine gp_gc [15, 60, 112] od_Rf_years rfl rfl ?_)
        by_cases c : s.2.1 = -1
        · rw [if_pos c] at hp
          refine gb_ne_f c ?_
          (repeat refine gp_gc [15, 60, 112] od_Rf_years rfl rfl ?_)
          exact hp
        · rw [if_neg c] at hp
          refine gb_ne_t c ?_
          (repeat refine gp_gc [15, 60, 112] od_Rf_years rfl rfl ?_)
          exact hp
      · rw [if_neg z] at hp
        (repeat refine gp_gc [15, 60, 112] od_Rf_years rfl rfl ?_)
        refine gb1_ne_f rfl ?_
        (repeat refine gp_gc [15, 60, 112] od_Rf_years rfl rfl ?_)
        exact hp
    · intro x ex
      subst ex
      refine gp_go od_Rf_years rfl ?_
      (repeat refine gp_gc [15, 60, 112] od_Rf_years rfl rfl ?_)
      refine gb_gt_t (by decide) ?_
      (repeat refine gp_gc [15, 60, 112] od_Rf_years rfl rfl ?_)
      exact fin 1 (nI 1000) _ (h1 ⟨a1, b1⟩ hso _ rfl)
  have key : ∀ (r j : Nat) (x sm : Int32), j + r = n → x = nI j → ((sm = 0 ∧ ¬ ∃ b, b < j ∧ ¬ w 134 b = -1) ∨ (sm = 1 ∧ ∃ b, b < j ∧ ¬ w 134 b = -1)) → gp_Go l G (d + 1) m_Rf_years K 15 [some (.ref 95), some (.int what), some (.int sm), some (.int x), none, none, none] [] (gv w u q) 0 0 := by
    intro r
    induction r with
    | zero =>
      intro j x sm hj ex hs
      subst ex
      have hj : j = n := by omega
      subst hj
      refine gp_go od_Rf_years rfl ?_
      (repeat refine gp_gc [15, 60, 112] od_Rf_years rfl rfl ?_)
      refine gb_ge_t (by rw [en]; exact Int32.le_refl _) ?_
      (repeat refine gp_gc [15, 60, 112] od_Rf_years rfl rfl ?_)
      rcases hs with ⟨rfl, hs⟩ | ⟨rfl, hs⟩
      · exact none' hs
      · exact some' hs
    | succ r ih =>
      intro j x sm hj ex hs
      subst ex
      have ec : (nI j).toNatClampNeg = j := nI_clamp (by omega)
      have i1 : vp_in (nI j) 14 := vp_in_nI (by omega) (by decide)
      refine gp_go od_Rf_years rfl ?_
      (repeat refine gp_gc [15, 60, 112] od_Rf_years rfl rfl ?_)
      refine gb_ge_f (by rw [en]; exact nI_ge (by omega) (by omega)) ?_
      (repeat refine gp_gc [15, 60, 112] od_Rf_years rfl rfl ?_)
      rcases hs with ⟨rfl, hs⟩ | ⟨rfl, hs⟩
      · refine gb1_ne_f rfl ?_
        (repeat refine gp_gc [15, 60, 112] od_Rf_years rfl rfl ?_)
        refine And.intro i1 ?_
        (repeat refine gp_gc [15, 60, 112] od_Rf_years rfl rfl ?_)
        rw [ec]
        by_cases b : w 134 j = -1
        · refine gb_eq_t b ?_
          (repeat refine gp_gc [15, 60, 112] od_Rf_years rfl rfl ?_)
          exact ih (j + 1) _ _ (by omega) (gp_inc rfl) (Or.inl ⟨rfl, fun ⟨t, t1, t2⟩ => by
            by_cases e : t = j
            · rw [e] at t2; exact t2 b
            · exact hs ⟨t, by omega, t2⟩⟩)
        · refine gb_eq_f b ?_
          (repeat refine gp_gc [15, 60, 112] od_Rf_years rfl rfl ?_)
          exact ih (j + 1) _ _ (by omega) (gp_inc rfl) (Or.inr ⟨rfl, j, by omega, b⟩)
      · refine gb1_ne_t (by decide) ?_
        (repeat refine gp_gc [15, 60, 112] od_Rf_years rfl rfl ?_)
        obtain ⟨t, t1, t2⟩ := hs
        exact ih (j + 1) _ _ (by omega) (gp_inc rfl) (Or.inr ⟨rfl, t, by omega, t2⟩)
  exact key n 0 _ _ (by omega) rfl (Or.inl ⟨rfl, fun ⟨t, t1, t2⟩ => absurd t1 (by omega)⟩)

end
end
section
section
variable {l : Launch} {G : gp_G} {d : Nat} {w : Nat → Nat → Int32} {u : Int64 × (Nat → Int64)} {q : Nat → Nat} {K : Option Value → gp_H → Prop}
/-! ===== the reference's methods: places, laid, trials ===== -/
/-- a cell is where it is said of a beat -/
abbrev gf_plC (w : Nat → Nat → Int32) (doubt : Int32) (c b : Nat) : Prop := w 136 b = 0 ∨ ∃ r D : Nat, (nI (c % 40) - w 132 b) * (nI (c % 40) - w 132 b) + (nI (c / 40) - w 133 b) * (nI (c / 40) - w 133 b) = nI D ∧ D < 10000 ∧ r * r ≤ D ∧ D < (r + 1) * (r + 1) ∧ -doubt ≤ nI r - w 136 b ∧ nI r - w 136 b ≤ doubt
theorem gf_rt {a b D : Nat} (h1 : a * a ≤ D) (h2 : D < (a + 1) * (a + 1)) (h3 : b * b ≤ D) (h4 : D < (b + 1) * (b + 1)) : a = b := by
  rcases Nat.lt_trichotomy a b with h | h | h
  · have : (a + 1) * (a + 1) ≤ b * b := Nat.mul_le_mul h h
    omega
  · exact h
  · have : (b + 1) * (b + 1) ≤ a * a := Nat.mul_le_mul h h
    omega
def gf_plS (C : Nat → Prop) (dc : ∀ y, Decidable (C y)) (c : Nat) (s : Int32 × Int32) : Int32 × Int32 := @ite _ (C c) (dc c) (s.1 + 1, (if s.1 = 0 then nI c else s.2)) s
set_option maxRecDepth 100000 in
theorem gl_Rf_places {doubt what : Int32} {n c : Nat} {s : Int32 × Int32} (en : w 95 57 = nI n) (hn : n ≤ 14) (hc : c < 1600) (hD : ∀ b, b < n → ∃ D : Nat, D < 10000 ∧ (nI (c % 40) - w 132 b) * (nI (c % 40) - w 132 b) + (nI (c / 40) - w 133 b) * (nI (c / 40) - w 133 b) = nI D) (hy : (∀ b, b < n → gf_plC w doubt c b) → gp_Go l G (d + 1) m_Rf_places K 130 [some (.ref 95), some (.int doubt), some (.int what), some (.int s.1), some (.int s.2), some (.int (nI c)), some (.int 1), none, none] [] (gv w u q) 0 0) (hz : ¬ (∀ b, b < n → gf_plC w doubt c b) → gp_Go l G (d + 1) m_Rf_places K 130 [some (.ref 95), some (.int doubt), some (.int what), some (.int s.1), some (.int s.2), some (.int (nI c)), some (.int 0), none, none] [] (gv w u q) 0 0) : gp_Go l G (d + 1) m_Rf_places K 43 [some (.ref 95), some (.int doubt), some (.int what), some (.int s.1), some (.int s.2), some (.int (nI c)), some (.int 1), some (.int 0), none] [] (gv w u q) 0 0 := by
  have e40 : nI c - nI c / 40 * 40 = nI (c % 40) := pk_rem (d := 40) (by omega) (by decide) (by decide)
  have d40 : nI c / 40 = nI (c / 40) := pk_div (d := 40) (by omega) (by decide) (by decide)
  have no : ∀ x : Int32, ¬ (∀ b, b < n → gf_plC w doubt c b) → gp_Go l G (d + 1) m_Rf_places K 43 [some (.ref 95), some (.int doubt), some (.int what), some (.int s.1), some (.int s.2), some (.int (nI c)), some (.int 0), some (.int x), none] [] (gv w u q) 0 0 := by
    intro x hno
    refine gp_go od_Rf_places rfl ?_
    (repeat refine gp_gc [29, 43, 130] od_Rf_places rfl rfl ?_)
    by_cases b : w 95 57 ≤ x
    · refine gb_ge_t b ?_
      (repeat refine gp_gc [29, 43, 130] od_Rf_places rfl rfl ?_)
      refine gp_drop 7 ?_
      exact hz hno
    · refine gb_ge_f b ?_
      (repeat refine gp_gc [29, 43, 130] od_Rf_places rfl rfl ?_)
      refine gb1_eq_t rfl ?_
      (repeat refine gp_gc [29, 43, 130] od_Rf_places rfl rfl ?_)
      refine gp_drop 7 ?_
      exact hz hno
  have key : ∀ (r j : Nat) (x : Int32), j + r = n → x = nI j → (∀ t, t < j → gf_plC w doubt c t) → gp_Go l G (d + 1) m_Rf_places K 43 [some (.ref 95), some (.int doubt), some (.int what), some (.int s.1), some (.int s.2), some (.int (nI c)), some (.int 1), some (.int x), none] [] (gv w u q) 0 0 := by
    intro r
    induction r with
    | zero =>
      intro j x hj ex hall
      subst ex
      refine gp_go od_Rf_places rfl ?_
      (repeat refine gp_gc [29, 43, 130] od_Rf_places rfl rfl ?_)
      refine gb_ge_t (by rw [en]; exact nI_le (by omega) (by omega)) ?_
      (repeat refine gp_gc [29, 43, 130] od_Rf_places rfl rfl ?_)
      refine gp_drop 7 ?_
      exact hy (fun t ht => hall t (by omega))
    | succ r ih =>
      intro j x hj ex hall
      subst ex
      have ec : (nI j).toNatClampNeg = j := nI_clamp (by omega)
      have i1 : vp_in (nI j) 14 := vp_in_nI (by omega) (by decide)
      obtain ⟨D, hD1, hD2⟩ := hD j (by omega)
      refine gp_go od_Rf_places rfl ?_
      (repeat refine gp_gc [29, 43, 130] od_Rf_places rfl rfl ?_)
      refine gb_ge_f (by rw [en]; exact nI_ge (by omega) (by omega)) ?_
      (repeat refine gp_gc [29, 43, 130] od_Rf_places rfl rfl ?_)
      refine gb1_eq_f (by decide) ?_
      (repeat refine gp_gc [29, 43, 130] od_Rf_places rfl rfl ?_)
      refine And.intro (by decide) ?_
      (repeat refine gp_gc [29, 43, 130] od_Rf_places rfl rfl ?_)
      refine And.intro i1 ?_
      (repeat refine gp_gc [29, 43, 130] od_Rf_places rfl rfl ?_)
      refine And.intro (by decide) ?_
      (repeat refine gp_gc [29, 43, 130] od_Rf_places rfl rfl ?_)
      refine And.intro i1 ?_
      (repeat refine gp_gc [29, 43, 130] od_Rf_places rfl rfl ?_)
      refine sp_Rf_distance (d := d) (D := D) (by rw [ec]; show (nI c - nI c / 40 * 40 - w 132 j) * (nI c - nI c / 40 * 40 - w 132 j) + (nI c / 40 - w 133 j) * (nI c / 40 - w 133 j) = nI D; rw [e40, d40]; exact hD2) hD1 (fun rr g1 g2 => ?_)
      (repeat refine gp_gc [29, 43, 130] od_Rf_places rfl rfl ?_)
      refine And.intro i1 ?_
      (repeat refine gp_gc [29, 43, 130] od_Rf_places rfl rfl ?_)
      refine And.intro i1 ?_
      (repeat refine gp_gc [29, 43, 130] od_Rf_places rfl rfl ?_)
      rw [ec]
      by_cases b0 : w 136 j = 0
      · refine gb1_eq_t b0 ?_
        (repeat refine gp_gc [29, 43, 130] od_Rf_places rfl rfl ?_)
        refine gp_drop 8 ?_
        exact ih (j + 1) _ (by omega) (gp_inc rfl) (lt_s hall (Or.inl b0))
      refine gb1_eq_f b0 ?_
      (repeat refine gp_gc [29, 43, 130] od_Rf_places rfl rfl ?_)
      refine sp_Rf_isIn (fun a2 b2 => ?_) (fun n2 => ?_)
      · (repeat refine gp_gc [29, 43, 130] od_Rf_places rfl rfl ?_)
        refine gb1_eq_f (by decide) ?_
        (repeat refine gp_gc [29, 43, 130] od_Rf_places rfl rfl ?_)
        refine gp_drop 8 ?_
        exact ih (j + 1) _ (by omega) (gp_inc rfl) (lt_s hall (Or.inr ⟨rr, D, hD2, hD1, g1, g2, a2, b2⟩))
      · (repeat refine gp_gc [29, 43, 130] od_Rf_places rfl rfl ?_)
        refine gb1_eq_t rfl ?_
        (repeat refine gp_gc [29, 43, 130] od_Rf_places rfl rfl ?_)
        refine gp_drop 8 ?_
        refine no _ (fun z => ?_)
        rcases z j (by omega) with z | ⟨r', D', z1, z2, z3, z4, z5, z6⟩
        · exact b0 z
        · have eD : D' = D := (nI_eq (by omega) (by omega)).mp (z1.symm.trans hD2)
          subst eD
          have er := gf_rt g1 g2 z3 z4
          subst er
          exact n2 ⟨z5, z6⟩
  exact key n 0 _ (by omega) rfl (fun t ht => absurd ht (by omega))
set_option maxRecDepth 100000 in
theorem sp_Rf_places {doubt what : Int32} {n : Nat} (en : w 95 57 = nI n) (hn : n ≤ 14) (hD : ∀ c, c < 1600 → ∀ b, b < n → ∃ D : Nat, D < 10000 ∧ (nI (c % 40) - w 132 b) * (nI (c % 40) - w 132 b) + (nI (c / 40) - w 133 b) * (nI (c / 40) - w 133 b) = nI D) (dc : ∀ c : Nat, Decidable (∀ b, b < n → gf_plC w doubt c b)) (h0 : ¬ ((0 ≤ doubt ∧ doubt ≤ 55) ∧ 0 ≤ what ∧ what ≤ 1) → K (some (.int (-1))) (gv w u q)) (h1 : (0 ≤ doubt ∧ doubt ≤ 55) ∧ 0 ≤ what ∧ what ≤ 1 → ∀ s : Int32 × Int32, s = gp_it (gf_plS (fun c => ∀ b, b < n → gf_plC w doubt c b) dc) 0 1600 (0, -1) → K (some (.int (if what = 0 then s.1 else s.2))) (gv w u q)) : gp_Cal l G (d + 1) m_Rf_places [.ref 95, .int doubt, .int what] (gv w u q) K := by
  refine gp_enter od_Rf_places rfl ?_
  (repeat refine gp_gc [29, 43, 130] od_Rf_places rfl rfl ?_)
  refine sp_Rf_isIn (fun a1 b1 => ?_) (fun n1 => ?_)
  rotate_left
  · repeat refine gp_gc [29, 43, 130] od_Rf_places rfl rfl ?_
    first | refine And.intro (fun _ => ?_) (fun c => absurd rfl c) | refine And.intro (fun c => absurd rfl c) (fun _ => ?_)
    repeat refine gp_gc [29, 43, 130] od_Rf_places rfl rfl ?_
    exact h0 (fun z => n1 z.1)
  repeat refine gp_gc [29, 43, 130] od_Rf_places rfl rfl ?_
  first | refine And.intro (fun c => absurd c (by decide)) (fun _ => ?_) | refine And.intro (fun _ => ?_) (fun c => absurd c (by decide))
  repeat refine gp_gc [29, 43, 130] od_Rf_places rfl rfl ?_
  refine sp_Rf_isIn (fun a2 b2 => ?_) (fun n1 => ?_)
  rotate_left
  · repeat refine gp_gc [29, 43, 130] od_Rf_places rfl rfl ?_
    first | refine And.intro (fun _ => ?_) (fun c => absurd rfl c) | refine And.intro (fun c => absurd rfl c) (fun _ => ?_)
    repeat refine gp_gc [29, 43, 130] od_Rf_places rfl rfl ?_
    exact h0 (fun z => n1 z.2)
  repeat refine gp_gc [29, 43, 130] od_Rf_places rfl rfl ?_
  first | refine And.intro (fun c => absurd c (by decide)) (fun _ => ?_) | refine And.intro (fun _ => ?_) (fun c => absurd c (by decide))
  repeat refine gp_gc [29, 43, 130] od_Rf_places rfl rfl ?_
  refine gp_iter (P := fun j s => ∀ x, x = nI j → gp_Go l G (d + 1) m_Rf_places K 29 [some (.ref 95), some (.int doubt), some (.int what), some (.int s.1), some (.int s.2), some (.int x), none, none, none] [] (gv w u q) 0 0) (gf_plS (fun c => ∀ b, b < n → gf_plC w doubt c b) dc) 1600 ?_ 1600 0 (0, -1) (by omega) ?_ 0 rfl
  · intro c s hc hp x ex
    subst ex
    have hp := hp _ (gp_inc rfl)
    unfold gf_plS at hp
    refine gp_go od_Rf_places rfl ?_
    (repeat refine gp_gc [29, 43, 130] od_Rf_places rfl rfl ?_)
    refine gb_ge_f (nI_ge hc (by decide)) ?_
    (repeat refine gp_gc [29, 43, 130] od_Rf_places rfl rfl ?_)
    refine gl_Rf_places (s := s) en hn hc (hD c hc) (fun z => ?_) (fun z => ?_)
    · rw [if_pos z] at hp
      refine gp_go od_Rf_places rfl ?_
      (repeat refine gp_gc [29, 43, 130] od_Rf_places rfl rfl ?_)
      refine gb1_ne_t (by decide) ?_
      (repeat refine gp_gc [29, 43, 130] od_Rf_places rfl rfl ?_)
      by_cases b : s.1 = 0
      · rw [if_pos b] at hp
        refine gb1_ne_f b ?_
        (repeat refine gp_gc [29, 43, 130] od_Rf_places rfl rfl ?_)
        refine gp_drop 6 ?_
        exact hp
      · rw [if_neg b] at hp
        refine gb1_ne_t b ?_
        (repeat refine gp_gc [29, 43, 130] od_Rf_places rfl rfl ?_)
        refine gp_drop 6 ?_
        exact hp
    · rw [if_neg z] at hp
      refine gp_go od_Rf_places rfl ?_
      (repeat refine gp_gc [29, 43, 130] od_Rf_places rfl rfl ?_)
      refine gb1_ne_f rfl ?_
      (repeat refine gp_gc [29, 43, 130] od_Rf_places rfl rfl ?_)
      refine gp_drop 6 ?_
      exact hp
  · intro x ex
    subst ex
    have h := h1 ⟨⟨a1, b1⟩, a2, b2⟩ _ rfl
    refine gp_go od_Rf_places rfl ?_
    (repeat refine gp_gc [29, 43, 130] od_Rf_places rfl rfl ?_)
    refine gb_ge_t (Int32.le_refl _) ?_
    (repeat refine gp_gc [29, 43, 130] od_Rf_places rfl rfl ?_)
    by_cases b : what = 0
    · rw [if_pos b] at h
      refine gb1_ne_f b ?_
      (repeat refine gp_gc [29, 43, 130] od_Rf_places rfl rfl ?_)
      exact h
    · rw [if_neg b] at h
      refine gb1_ne_t b ?_
      (repeat refine gp_gc [29, 43, 130] od_Rf_places rfl rfl ?_)
      exact h
def gf_pkS (f : Nat → Int32) (i : Nat) (v : Int32) : Int32 := v ||| f i <<< ((2 * nI i) &&& 31)
set_option maxRecDepth 100000 in
theorem sp_Rf_cheapestNow {n : Nat} (en : w 95 2 = nI n) (hn : n ≤ 10) (h : K (some (.int (gp_it (gf_pkS (w 125)) 0 n 0))) (gv w u q)) : gp_Cal l G (d + 0) m_Rf_cheapestNow [.ref 95] (gv w u q) K := by
  refine gp_enter od_Rf_cheapestNow rfl ?_
  (repeat refine gp_gc [4] od_Rf_cheapestNow rfl rfl ?_)
  refine gp_iter (P := fun j s => ∀ x, x = nI j → gp_Go l G (d + 0) m_Rf_cheapestNow K 4 [some (.ref 95), some (.int s), some (.int x)] [] (gv w u q) 0 0) (gf_pkS (w 125)) n ?_ n 0 0 (by omega) ?_ 0 rfl
  · intro j s hj hp x ex
    subst ex
    have ec : (nI j).toNatClampNeg = j := nI_clamp (by omega)
    have hp := hp _ (gp_inc rfl)
    refine gp_go od_Rf_cheapestNow rfl ?_
    (repeat refine gp_gc [4] od_Rf_cheapestNow rfl rfl ?_)
    refine gb_ge_f (by rw [en]; exact nI_ge hj (by omega)) ?_
    (repeat refine gp_gc [4] od_Rf_cheapestNow rfl rfl ?_)
    refine And.intro (vp_in_nI (by omega) (by decide)) ?_
    (repeat refine gp_gc [4] od_Rf_cheapestNow rfl rfl ?_)
    rw [ec]
    exact hp
  · intro x ex
    subst ex
    refine gp_go od_Rf_cheapestNow rfl ?_
    (repeat refine gp_gc [4] od_Rf_cheapestNow rfl rfl ?_)
    refine gb_ge_t (by rw [en]; exact Int32.le_refl _) ?_
    (repeat refine gp_gc [4] od_Rf_cheapestNow rfl rfl ?_)
    exact h
set_option maxRecDepth 100000 in
theorem sp_Rf_isOfThis {t : Int32} {n i : Nat} (en : w 95 2 = nI n) (hn : n ≤ 10) (et : t = nI i) (hi : i < 40) (h1 : w 137 i = w 95 2 → (∀ j, j < n → w 138 (10 * i + j) = w 105 j) → K (some (.int 1)) (gv w u q)) (h0 : ¬ (w 137 i = w 95 2 ∧ ∀ j, j < n → w 138 (10 * i + j) = w 105 j) → K (some (.int 0)) (gv w u q)) : gp_Cal l G (d + 0) m_Rf_isOfThis [.ref 95, .int t] (gv w u q) K := by
  refine gp_enter od_Rf_isOfThis rfl ?_
  have ei : t.toNatClampNeg = i := by rw [et]; exact nI_clamp (by omega)
  have no : ∀ x : Int32, ¬ (w 137 i = w 95 2 ∧ ∀ j, j < n → w 138 (10 * i + j) = w 105 j) → gp_Go l G (d + 0) m_Rf_isOfThis K 21 [some (.ref 95), some (.int t), some (.int 0), some (.int x)] [] (gv w u q) 0 0 := by
    intro x hno
    refine gp_go od_Rf_isOfThis rfl ?_
    (repeat refine gp_gc [21] od_Rf_isOfThis rfl rfl ?_)
    by_cases b : w 95 2 ≤ x
    · refine gb_ge_t b ?_
      (repeat refine gp_gc [21] od_Rf_isOfThis rfl rfl ?_)
      exact And.intro (Or.inl rfl) (h0 hno)
    · refine gb_ge_f b ?_
      (repeat refine gp_gc [21] od_Rf_isOfThis rfl rfl ?_)
      refine gb1_eq_t rfl ?_
      (repeat refine gp_gc [21] od_Rf_isOfThis rfl rfl ?_)
      exact And.intro (Or.inl rfl) (h0 hno)
  (repeat refine gp_gc [21] od_Rf_isOfThis rfl rfl ?_)
  refine And.intro (by rw [et]; exact vp_in_nI hi (by decide)) ?_
  (repeat refine gp_gc [21] od_Rf_isOfThis rfl rfl ?_)
  rw [ei]
  by_cases b0 : w 137 i = w 95 2
  rotate_left
  · refine gb_ne_t b0 ?_
    (repeat refine gp_gc [21] od_Rf_isOfThis rfl rfl ?_)
    exact no _ (fun z => b0 z.1)
  refine gb_ne_f b0 ?_
  (repeat refine gp_gc [21] od_Rf_isOfThis rfl rfl ?_)
  have key : ∀ (r j : Nat) (x : Int32), j + r = n → x = nI j → (∀ k, k < j → w 138 (10 * i + k) = w 105 k) → gp_Go l G (d + 0) m_Rf_isOfThis K 21 [some (.ref 95), some (.int t), some (.int 1), some (.int x)] [] (gv w u q) 0 0 := by
    intro r
    induction r with
    | zero =>
      intro j x hj ex hall
      subst ex
      refine gp_go od_Rf_isOfThis rfl ?_
      (repeat refine gp_gc [21] od_Rf_isOfThis rfl rfl ?_)
      refine gb_ge_t (by rw [en]; exact nI_le (by omega) (by omega)) ?_
      (repeat refine gp_gc [21] od_Rf_isOfThis rfl rfl ?_)
      exact And.intro (Or.inr rfl) (h1 b0 (fun k hk => hall k (by omega)))
    | succ r ih =>
      intro j x hj ex hall
      subst ex
      have ec : (nI j).toNatClampNeg = j := nI_clamp (by omega)
      have e10 : 10 * t + nI j = nI (10 * i + j) := by rw [et]; show nI 10 * nI i + nI j = _; rw [pk_mul, nI_add]
      have ec2 : (10 * t + nI j).toNatClampNeg = 10 * i + j := by rw [e10]; exact nI_clamp (by omega)
      refine gp_go od_Rf_isOfThis rfl ?_
      (repeat refine gp_gc [21] od_Rf_isOfThis rfl rfl ?_)
      refine gb_ge_f (by rw [en]; exact nI_ge (by omega) (by omega)) ?_
      (repeat refine gp_gc [21] od_Rf_isOfThis rfl rfl ?_)
      refine gb1_eq_f (by decide) ?_
      (repeat refine gp_gc [21] od_Rf_isOfThis rfl rfl ?_)
      refine And.intro (show vp_in (10 * t + nI j) 400 by rw [e10]; exact vp_in_nI (by omega) (by decide)) ?_
      (repeat refine gp_gc [21] od_Rf_isOfThis rfl rfl ?_)
      refine And.intro (vp_in_nI (by omega) (by decide)) ?_
      (repeat refine gp_gc [21] od_Rf_isOfThis rfl rfl ?_)
      rw [ec]
      by_cases b : w 138 (10 * t + nI j).toNatClampNeg = w 105 j
      · refine gb_ne_f b ?_
        (repeat refine gp_gc [21] od_Rf_isOfThis rfl rfl ?_)
        exact ih (j + 1) _ (by omega) (gp_inc rfl) (lt_s hall (by rw [← ec2]; exact b))
      · refine gb_ne_t b ?_
        (repeat refine gp_gc [21] od_Rf_isOfThis rfl rfl ?_)
        exact no _ (fun z => b (by rw [ec2]; exact z.2 j (by omega)))
  exact key n 0 _ (by omega) rfl (fun k hk => absurd hk (by omega))

end
end
