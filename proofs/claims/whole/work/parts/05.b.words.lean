theorem iw_0_0 : Cond.selects "GoldPlate" ⟨"GoldPlate", "inMessage", "(I)Z"⟩ ⟨"GoldPlate", "inMessage", "(I)Z"⟩ ∈ gp_ws := gp_in0 (i := 0) rfl rfl
theorem iw_0_1 : Cond.selects "GoldPlate$Parser" ⟨"GoldPlate$Parser", "runEnd", "(I)I"⟩ ⟨"GoldPlate$Parser", "runEnd", "(I)I"⟩ ∈ gp_ws := gp_in0 (i := 1) rfl rfl
theorem iw_0_2 : Cond.selects "GoldPlate$Parser" ⟨"GoldPlate$Parser", "scanRun", "(II)V"⟩ ⟨"GoldPlate$Parser", "scanRun", "(II)V"⟩ ∈ gp_ws := gp_in0 (i := 2) rfl rfl
theorem iw_0_3 : Cond.selects "GoldPlate$Parser" ⟨"GoldPlate$Parser", "keyword", "(II)I"⟩ ⟨"GoldPlate$Parser", "keyword", "(II)I"⟩ ∈ gp_ws := gp_in0 (i := 3) rfl rfl
theorem iw_0_4 : Cond.selects "GoldPlate$Parser" ⟨"GoldPlate$Parser", "indexIn", "(Ljava/lang/String;II)I"⟩ ⟨"GoldPlate$Parser", "indexIn", "(Ljava/lang/String;II)I"⟩ ∈ gp_ws := gp_in0 (i := 4) rfl rfl
theorem iw_0_5 : Cond.selects "GoldPlate$Parser" ⟨"GoldPlate$Parser", "standsAt", "(Ljava/lang/String;III)Z"⟩ ⟨"GoldPlate$Parser", "standsAt", "(Ljava/lang/String;III)Z"⟩ ∈ gp_ws := gp_in0 (i := 5) rfl rfl
theorem iw_0_6 : Cond.selects "GoldPlate$Parser" ⟨"GoldPlate$Parser", "addToken", "(III)V"⟩ ⟨"GoldPlate$Parser", "addToken", "(III)V"⟩ ∈ gp_ws := gp_in0 (i := 6) rfl rfl
theorem iw_0_7 : Cond.selects "GoldPlate$Parser" ⟨"GoldPlate$Parser", "numberOf", "(II)I"⟩ ⟨"GoldPlate$Parser", "numberOf", "(II)I"⟩ ∈ gp_ws := gp_in0 (i := 7) rfl rfl
theorem iw_0_8 : Cond.selects "GoldPlate$Parser" ⟨"GoldPlate$Parser", "kind", "()I"⟩ ⟨"GoldPlate$Parser", "kind", "()I"⟩ ∈ gp_ws := gp_in0 (i := 8) rfl rfl
theorem iw_0_9 : Cond.selects "GoldPlate$Parser" ⟨"GoldPlate$Parser", "readLine", "()V"⟩ ⟨"GoldPlate$Parser", "readLine", "()V"⟩ ∈ gp_ws := gp_in0 (i := 9) rfl rfl
theorem iw_0_10 : Cond.selects "GoldPlate$Parser" ⟨"GoldPlate$Parser", "fail", "(I)V"⟩ ⟨"GoldPlate$Parser", "fail", "(I)V"⟩ ∈ gp_ws := gp_in0 (i := 10) rfl rfl
theorem iw_0_11 : Cond.selects "GoldPlate$Parser" ⟨"GoldPlate$Parser", "expression", "()V"⟩ ⟨"GoldPlate$Parser", "expression", "()V"⟩ ∈ gp_ws := gp_in0 (i := 11) rfl rfl
theorem iw_0_12 : Cond.selects "GoldPlate$Parser" ⟨"GoldPlate$Parser", "unit", "()V"⟩ ⟨"GoldPlate$Parser", "unit", "()V"⟩ ∈ gp_ws := gp_in0 (i := 12) rfl rfl
theorem iw_0_13 : Cond.selects "GoldPlate$Parser" ⟨"GoldPlate$Parser", "emit", "(II)V"⟩ ⟨"GoldPlate$Parser", "emit", "(II)V"⟩ ∈ gp_ws := gp_in0 (i := 13) rfl rfl
theorem iw_0_14 : Cond.selects "GoldPlate$Parser" ⟨"GoldPlate$Parser", "part", "()V"⟩ ⟨"GoldPlate$Parser", "part", "()V"⟩ ∈ gp_ws := gp_in0 (i := 14) rfl rfl
theorem iw_0_15 : Cond.selects "GoldPlate$Parser" ⟨"GoldPlate$Parser", "condition", "(I)V"⟩ ⟨"GoldPlate$Parser", "condition", "(I)V"⟩ ∈ gp_ws := gp_in0 (i := 15) rfl rfl
theorem iw_0_16 : Cond.selects "GoldPlate$Parser" ⟨"GoldPlate$Parser", "check", "(I)V"⟩ ⟨"GoldPlate$Parser", "check", "(I)V"⟩ ∈ gp_ws := gp_in0 (i := 16) rfl rfl
theorem iw_0_17 : Cond.selects "GoldPlate$Parser" ⟨"GoldPlate$Parser", "expect", "(I)V"⟩ ⟨"GoldPlate$Parser", "expect", "(I)V"⟩ ∈ gp_ws := gp_in0 (i := 17) rfl rfl
theorem iw_0_18 : Cond.selects "GoldPlate$Parser" ⟨"GoldPlate$Parser", "expectComparison", "(I)V"⟩ ⟨"GoldPlate$Parser", "expectComparison", "(I)V"⟩ ∈ gp_ws := gp_in0 (i := 18) rfl rfl
theorem iw_0_19 : Cond.selects "GoldPlate$Parser" ⟨"GoldPlate$Parser", "readNumber", "(I)V"⟩ ⟨"GoldPlate$Parser", "readNumber", "(I)V"⟩ ∈ gp_ws := gp_in0 (i := 19) rfl rfl
theorem iw_0_20 : Cond.selects "GoldPlate$Search" ⟨"GoldPlate$Search", "takingsOf", "(LGoldPlate$Mark;LGoldPlate$Mind;I)I"⟩ ⟨"GoldPlate$Search", "takingsOf", "(LGoldPlate$Mark;LGoldPlate$Mind;I)I"⟩ ∈ gp_ws := gp_in0 (i := 20) rfl rfl
theorem iw_0_21 : Cond.selects "GoldPlate$Search" ⟨"GoldPlate$Search", "priceAll", "(ILGoldPlate$Mind;)V"⟩ ⟨"GoldPlate$Search", "priceAll", "(ILGoldPlate$Mind;)V"⟩ ∈ gp_ws := gp_in0 (i := 21) rfl rfl
theorem iw_0_22 : Cond.selects "GoldPlate$Sums" ⟨"GoldPlate$Sums", "step", "(II)V"⟩ ⟨"GoldPlate$Sums", "step", "(II)V"⟩ ∈ gp_ws := gp_in0 (i := 22) rfl rfl
theorem iw_0_23 : Cond.selects "GoldPlate$Search" ⟨"GoldPlate$Search", "setFloors", "()V"⟩ ⟨"GoldPlate$Search", "setFloors", "()V"⟩ ∈ gp_ws := gp_in0 (i := 23) rfl rfl
theorem iw_0_24 : Cond.selects "GoldPlate$Search" ⟨"GoldPlate$Search", "walk", "(IIII)V"⟩ ⟨"GoldPlate$Search", "walk", "(IIII)V"⟩ ∈ gp_ws := gp_in0 (i := 24) rfl rfl
theorem iw_0_25 : Cond.selects "GoldPlate$Search" ⟨"GoldPlate$Search", "arrive", "(I)V"⟩ ⟨"GoldPlate$Search", "arrive", "(I)V"⟩ ∈ gp_ws := gp_in0 (i := 25) rfl rfl
theorem iw_0_26 : Cond.selects "GoldPlate" ⟨"GoldPlate", "findCheapest", "(JII)V"⟩ ⟨"GoldPlate", "findCheapest", "(JII)V"⟩ ∈ gp_ws := gp_in0 (i := 26) rfl rfl
theorem iw_0_27 : Cond.selects "GoldPlate$Widths" ⟨"GoldPlate$Widths", "insert", "(II)V"⟩ ⟨"GoldPlate$Widths", "insert", "(II)V"⟩ ∈ gp_ws := gp_in0 (i := 27) rfl rfl
theorem iw_0_28 : Cond.selects "GoldPlate$Sky" ⟨"GoldPlate$Sky", "anyFound", "()Z"⟩ ⟨"GoldPlate$Sky", "anyFound", "()Z"⟩ ∈ gp_ws := gp_in0 (i := 28) rfl rfl
theorem iw_0_29 : Cond.selects "GoldPlate$Sky" ⟨"GoldPlate$Sky", "fitsAll", "(I)Z"⟩ ⟨"GoldPlate$Sky", "fitsAll", "(I)Z"⟩ ∈ gp_ws := gp_in0 (i := 29) rfl rfl
theorem iw_0_30 : Cond.selects "GoldPlate$Sky" ⟨"GoldPlate$Sky", "fits", "(II)Z"⟩ ⟨"GoldPlate$Sky", "fits", "(II)Z"⟩ ∈ gp_ws := gp_in0 (i := 30) rfl rfl
theorem iw_0_31 : Cond.selects "GoldPlate$Sky" ⟨"GoldPlate$Sky", "isPlace", "(III)Z"⟩ ⟨"GoldPlate$Sky", "isPlace", "(III)Z"⟩ ∈ gp_ws := gp_in0 (i := 31) rfl rfl
theorem iw_0_32 : Cond.selects "GoldPlate$Chooser" ⟨"GoldPlate$Chooser", "ableMarks", "(LGoldPlate$Mind;)I"⟩ ⟨"GoldPlate$Chooser", "ableMarks", "(LGoldPlate$Mind;)I"⟩ ∈ gp_ws := gp_in0 (i := 32) rfl rfl
theorem iw_0_33 : Cond.selects "GoldPlate$Chooser" ⟨"GoldPlate$Chooser", "grow", "(IIII)V"⟩ ⟨"GoldPlate$Chooser", "grow", "(IIII)V"⟩ ∈ gp_ws := gp_in0 (i := 33) rfl rfl
theorem iw_0_34 : Cond.selects "GoldPlate$Chooser" ⟨"GoldPlate$Chooser", "judge", "(III)V"⟩ ⟨"GoldPlate$Chooser", "judge", "(III)V"⟩ ∈ gp_ws := gp_in0 (i := 34) rfl rfl
theorem iw_0_35 : Cond.selects "GoldPlate$Chooser" ⟨"GoldPlate$Chooser", "scoreOf", "(I)I"⟩ ⟨"GoldPlate$Chooser", "scoreOf", "(I)I"⟩ ∈ gp_ws := gp_in0 (i := 35) rfl rfl
theorem iw_0_36 : Cond.selects "GoldPlate$Chooser" ⟨"GoldPlate$Chooser", "gains", "(II)Z"⟩ ⟨"GoldPlate$Chooser", "gains", "(II)Z"⟩ ∈ gp_ws := gp_in0 (i := 36) rfl rfl
theorem iw_0_37 : Cond.selects "GoldPlate" ⟨"GoldPlate", "countTold", "(III)I"⟩ ⟨"GoldPlate", "countTold", "(III)I"⟩ ∈ gp_ws := gp_in0 (i := 37) rfl rfl
theorem iw_0_38 : Cond.selects "GoldPlate" ⟨"GoldPlate", "othersAreThere", "(I)Z"⟩ ⟨"GoldPlate", "othersAreThere", "(I)Z"⟩ ∈ gp_ws := gp_in0 (i := 38) rfl rfl
theorem iw_0_39 : Cond.selects "GoldPlate" ⟨"GoldPlate", "marksAtPlaces", "(I)I"⟩ ⟨"GoldPlate", "marksAtPlaces", "(I)I"⟩ ∈ gp_ws := gp_in0 (i := 39) rfl rfl
theorem iw_0_40 : Cond.selects "GoldPlateModel" ⟨"GoldPlateModel", "isMark", "(I)Z"⟩ ⟨"GoldPlateModel", "isMark", "(I)Z"⟩ ∈ gp_ws := gp_in0 (i := 40) rfl rfl
theorem iw_0_41 : Cond.selects "GoldPlateModel" ⟨"GoldPlateModel", "chain", "(I)I"⟩ ⟨"GoldPlateModel", "chain", "(I)I"⟩ ∈ gp_ws := gp_in0 (i := 41) rfl rfl
theorem iw_0_42 : Cond.selects "GoldPlateModel" ⟨"GoldPlateModel", "left", "(II)I"⟩ ⟨"GoldPlateModel", "left", "(II)I"⟩ ∈ gp_ws := gp_in0 (i := 42) rfl rfl
theorem iw_0_43 : Cond.selects "GoldPlateModel" ⟨"GoldPlateModel", "depth", "(I)I"⟩ ⟨"GoldPlateModel", "depth", "(I)I"⟩ ∈ gp_ws := gp_in0 (i := 43) rfl rfl
theorem iw_0_44 : Cond.selects "GoldPlateModel" ⟨"GoldPlateModel", "isWorn", "(I)Z"⟩ ⟨"GoldPlateModel", "isWorn", "(I)Z"⟩ ∈ gp_ws := gp_in0 (i := 44) rfl rfl
theorem iw_0_45 : Cond.selects "GoldPlateModel" ⟨"GoldPlateModel", "isMind", "(I)Z"⟩ ⟨"GoldPlateModel", "isMind", "(I)Z"⟩ ∈ gp_ws := gp_in0 (i := 45) rfl rfl
theorem iw_0_46 : Cond.selects "GoldPlateModel" ⟨"GoldPlateModel", "next0", "()V"⟩ ⟨"GoldPlateModel", "next0", "()V"⟩ ∈ gp_ws := gp_in0 (i := 46) rfl rfl
theorem iw_0_47 : Cond.selects "GoldPlateModel" ⟨"GoldPlateModel", "see", "(I)I"⟩ ⟨"GoldPlateModel", "see", "(I)I"⟩ ∈ gp_ws := gp_in0 (i := 47) rfl rfl
theorem iw_0_48 : Cond.selects "GoldPlateModel" ⟨"GoldPlateModel", "word", "()I"⟩ ⟨"GoldPlateModel", "word", "()I"⟩ ∈ gp_ws := gp_in0 (i := 48) rfl rfl
theorem iw_0_49 : Cond.selects "GoldPlateModel" ⟨"GoldPlateModel", "is", "(Ljava/lang/String;)Z"⟩ ⟨"GoldPlateModel", "is", "(Ljava/lang/String;)Z"⟩ ∈ gp_ws := gp_in0 (i := 49) rfl rfl
theorem iw_0_50 : Cond.selects "GoldPlateModel" ⟨"GoldPlateModel", "name", "()I"⟩ ⟨"GoldPlateModel", "name", "()I"⟩ ∈ gp_ws := gp_in0 (i := 50) rfl rfl
theorem iw_0_51 : Cond.selects "GoldPlateModel" ⟨"GoldPlateModel", "aLine", "()Z"⟩ ⟨"GoldPlateModel", "aLine", "()Z"⟩ ∈ gp_ws := gp_in0 (i := 51) rfl rfl
theorem iw_0_52 : Cond.selects "GoldPlateModel" ⟨"GoldPlateModel", "bad", "(I)Z"⟩ ⟨"GoldPlateModel", "bad", "(I)Z"⟩ ∈ gp_ws := gp_in0 (i := 52) rfl rfl
theorem iw_0_53 : Cond.selects "GoldPlateModel" ⟨"GoldPlateModel", "number", "(II)Z"⟩ ⟨"GoldPlateModel", "number", "(II)Z"⟩ ∈ gp_ws := gp_in0 (i := 53) rfl rfl
theorem iw_0_54 : Cond.selects "GoldPlateModel" ⟨"GoldPlateModel", "aPrice", "()Z"⟩ ⟨"GoldPlateModel", "aPrice", "()Z"⟩ ∈ gp_ws := gp_in0 (i := 54) rfl rfl
theorem iw_0_55 : Cond.selects "GoldPlateModel" ⟨"GoldPlateModel", "sumUp", "()Z"⟩ ⟨"GoldPlateModel", "sumUp", "()Z"⟩ ∈ gp_ws := gp_in0 (i := 55) rfl rfl
theorem iw_0_56 : Cond.selects "GoldPlateModel" ⟨"GoldPlateModel", "product", "()Z"⟩ ⟨"GoldPlateModel", "product", "()Z"⟩ ∈ gp_ws := gp_in0 (i := 56) rfl rfl
theorem iw_0_57 : Cond.selects "GoldPlateModel" ⟨"GoldPlateModel", "unit", "()Z"⟩ ⟨"GoldPlateModel", "unit", "()Z"⟩ ∈ gp_ws := gp_in0 (i := 57) rfl rfl
theorem iw_0_58 : Cond.selects "GoldPlateModel" ⟨"GoldPlateModel", "lay", "(II)V"⟩ ⟨"GoldPlateModel", "lay", "(II)V"⟩ ∈ gp_ws := gp_in0 (i := 58) rfl rfl
theorem iw_0_59 : Cond.selects "GoldPlateModel" ⟨"GoldPlateModel", "any", "()Z"⟩ ⟨"GoldPlateModel", "any", "()Z"⟩ ∈ gp_ws := gp_in0 (i := 59) rfl rfl
theorem iw_0_60 : Cond.selects "GoldPlateModel" ⟨"GoldPlateModel", "every", "()Z"⟩ ⟨"GoldPlateModel", "every", "()Z"⟩ ∈ gp_ws := gp_in0 (i := 60) rfl rfl
theorem iw_0_61 : Cond.selects "GoldPlateModel" ⟨"GoldPlateModel", "one", "()Z"⟩ ⟨"GoldPlateModel", "one", "()Z"⟩ ∈ gp_ws := gp_in0 (i := 61) rfl rfl
theorem iw_0_62 : Cond.selects "GoldPlateModel" ⟨"GoldPlateModel", "opens", "()Z"⟩ ⟨"GoldPlateModel", "opens", "()Z"⟩ ∈ gp_ws := gp_in0 (i := 62) rfl rfl
theorem iw_0_63 : Cond.selects "GoldPlateModel" ⟨"GoldPlateModel", "need", "(I)Z"⟩ ⟨"GoldPlateModel", "need", "(I)Z"⟩ ∈ gp_ws := gp_in0 (i := 63) rfl rfl
theorem iw_0_64 : Cond.selects "GoldPlateModel" ⟨"GoldPlateModel", "takesMind", "(II)V"⟩ ⟨"GoldPlateModel", "takesMind", "(II)V"⟩ ∈ gp_ws := gp_in0 (i := 64) rfl rfl
theorem iw_0_65 : Cond.selects "GoldPlateModel" ⟨"GoldPlateModel", "laysPrices", "(I)V"⟩ ⟨"GoldPlateModel", "laysPrices", "(I)V"⟩ ∈ gp_ws := gp_in0 (i := 65) rfl rfl
theorem iw_0_66 : Cond.selects "GoldPlateModel" ⟨"GoldPlateModel", "priceNow", "(I)I"⟩ ⟨"GoldPlateModel", "priceNow", "(I)I"⟩ ∈ gp_ws := gp_in0 (i := 66) rfl rfl
theorem iw_0_67 : Cond.selects "GoldPlateModel" ⟨"GoldPlateModel", "comesTo", "(III)I"⟩ ⟨"GoldPlateModel", "comesTo", "(III)I"⟩ ∈ gp_ws := gp_in0 (i := 67) rfl rfl
theorem iw_0_68 : Cond.selects "GoldPlateModel" ⟨"GoldPlateModel", "goesOn", "(IIZ)V"⟩ ⟨"GoldPlateModel", "goesOn", "(IIZ)V"⟩ ∈ gp_ws := gp_in0 (i := 68) rfl rfl
theorem iw_0_69 : Cond.selects "GoldPlateModel" ⟨"GoldPlateModel", "canTake", "(II)Z"⟩ ⟨"GoldPlateModel", "canTake", "(II)Z"⟩ ∈ gp_ws := gp_in0 (i := 69) rfl rfl
theorem iw_0_70 : Cond.selects "GoldPlateModel" ⟨"GoldPlateModel", "canSee", "(III)Z"⟩ ⟨"GoldPlateModel", "canSee", "(III)Z"⟩ ∈ gp_ws := gp_in0 (i := 70) rfl rfl
theorem iw_0_71 : Cond.selects "GoldPlateModel" ⟨"GoldPlateModel", "isTwice", "(II)Z"⟩ ⟨"GoldPlateModel", "isTwice", "(II)Z"⟩ ∈ gp_ws := gp_in0 (i := 71) rfl rfl
theorem iw_0_72 : Cond.selects "GoldPlateModel" ⟨"GoldPlateModel", "thing", "(II)I"⟩ ⟨"GoldPlateModel", "thing", "(II)I"⟩ ∈ gp_ws := gp_in0 (i := 72) rfl rfl
theorem iw_0_73 : Cond.selects "GoldPlateModel" ⟨"GoldPlateModel", "seeks", "(I)V"⟩ ⟨"GoldPlateModel", "seeks", "(I)V"⟩ ∈ gp_ws := gp_in0 (i := 73) rfl rfl
theorem iw_0_74 : Cond.selects "GoldPlateModel" ⟨"GoldPlateModel", "allNeeds", "(I)I"⟩ ⟨"GoldPlateModel", "allNeeds", "(I)I"⟩ ∈ gp_ws := gp_in0 (i := 74) rfl rfl
theorem iw_0_75 : Cond.selects "GoldPlateModel" ⟨"GoldPlateModel", "isAlone", "(III)Z"⟩ ⟨"GoldPlateModel", "isAlone", "(III)Z"⟩ ∈ gp_ws := gp_in0 (i := 75) rfl rfl
theorem iw_0_76 : Cond.selects "GoldPlateModel" ⟨"GoldPlateModel", "findsWidths", "(I)V"⟩ ⟨"GoldPlateModel", "findsWidths", "(I)V"⟩ ∈ gp_ws := gp_in0 (i := 76) rfl rfl
theorem iw_0_77 : Cond.selects "GoldPlateModel" ⟨"GoldPlateModel", "isWidth", "(I)Z"⟩ ⟨"GoldPlateModel", "isWidth", "(I)Z"⟩ ∈ gp_ws := gp_in0 (i := 77) rfl rfl
theorem iw_0_78 : Cond.selects "GoldPlateModel" ⟨"GoldPlateModel", "triedAs", "(II)I"⟩ ⟨"GoldPlateModel", "triedAs", "(II)I"⟩ ∈ gp_ws := gp_in0 (i := 78) rfl rfl
theorem iw_0_79 : Cond.selects "GoldPlateModel" ⟨"GoldPlateModel", "edges", "(II)I"⟩ ⟨"GoldPlateModel", "edges", "(II)I"⟩ ∈ gp_ws := gp_in0 (i := 79) rfl rfl
theorem iw_0_80 : Cond.selects "GoldPlateModel" ⟨"GoldPlateModel", "laidAt", "(IIII)I"⟩ ⟨"GoldPlateModel", "laidAt", "(IIII)I"⟩ ∈ gp_ws := gp_in0 (i := 80) rfl rfl
theorem iw_0_81 : Cond.selects "GoldPlateModel" ⟨"GoldPlateModel", "isBeat", "(I)Z"⟩ ⟨"GoldPlateModel", "isBeat", "(I)Z"⟩ ∈ gp_ws := gp_in0 (i := 81) rfl rfl
theorem iw_0_82 : Cond.selects "GoldPlateModel" ⟨"GoldPlateModel", "isThen", "(I)Z"⟩ ⟨"GoldPlateModel", "isThen", "(I)Z"⟩ ∈ gp_ws := gp_in0 (i := 82) rfl rfl
theorem iw_0_83 : Cond.selects "GoldPlateModel" ⟨"GoldPlateModel", "toldBy", "(III)I"⟩ ⟨"GoldPlateModel", "toldBy", "(III)I"⟩ ∈ gp_ws := gp_in0 (i := 83) rfl rfl
theorem iw_0_84 : Cond.selects "GoldPlateModel" ⟨"GoldPlateModel", "worth", "(IIZ)I"⟩ ⟨"GoldPlateModel", "worth", "(IIZ)I"⟩ ∈ gp_ws := gp_in0 (i := 84) rfl rfl
theorem iw_0_85 : Cond.selects "GoldPlateModel" ⟨"GoldPlateModel", "costOfSet", "(I)I"⟩ ⟨"GoldPlateModel", "costOfSet", "(I)I"⟩ ∈ gp_ws := gp_in0 (i := 85) rfl rfl
theorem iw_0_86 : Cond.selects "GoldPlateModel" ⟨"GoldPlateModel", "allMarks", "()I"⟩ ⟨"GoldPlateModel", "allMarks", "()I"⟩ ∈ gp_ws := gp_in0 (i := 86) rfl rfl
theorem iw_0_87 : Cond.selects "GoldPlateModel" ⟨"GoldPlateModel", "cheapestNow", "()I"⟩ ⟨"GoldPlateModel", "cheapestNow", "()I"⟩ ∈ gp_ws := gp_in0 (i := 87) rfl rfl
theorem iw_0_88 : Cond.selects "GoldPlateModel" ⟨"GoldPlateModel", "isOfThis", "(I)Z"⟩ ⟨"GoldPlateModel", "isOfThis", "(I)Z"⟩ ∈ gp_ws := gp_in0 (i := 88) rfl rfl
theorem iw_1_1 : Cond.initialized "GoldPlate" ∈ gp_ws := gp_in1 (i := 1) rfl rfl
theorem iw_1_2 : Cond.initialized "GoldPlate$Plate" ∈ gp_ws := gp_in1 (i := 2) rfl rfl
theorem iw_1_3 : Cond.initialized "GoldPlate$Mark" ∈ gp_ws := gp_in1 (i := 3) rfl rfl
theorem iw_1_4 : Cond.initialized "GoldPlate$Mind" ∈ gp_ws := gp_in1 (i := 4) rfl rfl
theorem iw_1_5 : Cond.initialized "GoldPlate$Sums" ∈ gp_ws := gp_in1 (i := 5) rfl rfl
theorem iw_1_6 : Cond.initialized "GoldPlate$Parser" ∈ gp_ws := gp_in1 (i := 6) rfl rfl
theorem iw_1_7 : Cond.initialized "GoldPlate$Search" ∈ gp_ws := gp_in1 (i := 7) rfl rfl
theorem iw_1_8 : Cond.initialized "GoldPlate$Chooser" ∈ gp_ws := gp_in1 (i := 8) rfl rfl
theorem iw_1_9 : Cond.initialized "GoldPlate$BitRow" ∈ gp_ws := gp_in1 (i := 9) rfl rfl
theorem iw_1_10 : Cond.initialized "GoldPlate$Widths" ∈ gp_ws := gp_in1 (i := 10) rfl rfl
theorem iw_1_11 : Cond.initialized "GoldPlate$Sky" ∈ gp_ws := gp_in1 (i := 11) rfl rfl
theorem iw_1_12 : Cond.initialized "GoldPlate$Trials" ∈ gp_ws := gp_in1 (i := 12) rfl rfl
theorem iw_1_13 : Cond.initialized "GoldPlateModel" ∈ gp_ws := gp_in1 (i := 13) rfl rfl
theorem iw_1_14 : Cond.initialized "java/lang/Math" ∈ gp_ws := gp_in1 (i := 14) rfl rfl
theorem iw_1_15 : Cond.initialized "java/lang/String" ∈ gp_ws := gp_in1 (i := 15) rfl rfl
theorem iw_1_16 : Cond.initialized "java/lang/StringLatin1" ∈ gp_ws := gp_in1 (i := 16) rfl rfl
theorem iw_1_17 : Cond.initialized "jdk/internal/util/Preconditions" ∈ gp_ws := gp_in1 (i := 17) rfl rfl
theorem iw_1_20 : Cond.initialized "java/lang/Integer" ∈ gp_ws := gp_in1 (i := 20) rfl rfl
theorem iw_1_21 : Cond.classLink "GoldPlateLaw" 7 "GoldPlate" ∈ gp_ws := gp_in1 (i := 21) rfl rfl
theorem iw_1_22 : Cond.instantiable "GoldPlate" 13 ∈ gp_ws := gp_in1 (i := 22) rfl rfl
theorem iw_1_23 : Cond.methodLink "GoldPlateLaw" 9 ⟨"GoldPlate", "<init>", "()V"⟩ ∈ gp_ws := gp_in1 (i := 23) rfl rfl
theorem iw_1_24 : Cond.instanceMethod ⟨"GoldPlate", "<init>", "()V"⟩ ∈ gp_ws := gp_in1 (i := 24) rfl rfl
theorem iw_1_25 : Cond.code ⟨"GoldPlate", "<init>", "()V"⟩ prog_1_method_1_code 4 none ∈ gp_ws := gp_in1 (i := 25) rfl rfl
theorem iw_1_26 : Cond.methodLink "GoldPlate" 3 ⟨"java/lang/Object", "<init>", "()V"⟩ ∈ gp_ws := gp_in1 (i := 26) rfl rfl
theorem iw_1_27 : Cond.instanceMethod ⟨"java/lang/Object", "<init>", "()V"⟩ ∈ gp_ws := gp_in1 (i := 27) rfl rfl
theorem iw_1_28 : Cond.code ⟨"java/lang/Object", "<init>", "()V"⟩ object_method_1_code 1 none ∈ gp_ws := gp_in1 (i := 28) rfl rfl
theorem iw_1_29 : Cond.classLink "GoldPlate" 9 "GoldPlate$Plate" ∈ gp_ws := gp_in1 (i := 29) rfl rfl
theorem iw_1_30 : Cond.instantiable "GoldPlate$Plate" 5 ∈ gp_ws := gp_in1 (i := 30) rfl rfl
theorem iw_1_31 : Cond.methodLink "GoldPlate" 11 ⟨"GoldPlate$Plate", "<init>", "()V"⟩ ∈ gp_ws := gp_in1 (i := 31) rfl rfl
theorem iw_1_32 : Cond.instanceMethod ⟨"GoldPlate$Plate", "<init>", "()V"⟩ ∈ gp_ws := gp_in1 (i := 32) rfl rfl
theorem iw_1_33 : Cond.code ⟨"GoldPlate$Plate", "<init>", "()V"⟩ prog_7_method_1_code 2 none ∈ gp_ws := gp_in1 (i := 33) rfl rfl
theorem iw_1_34 : Cond.methodLink "GoldPlate$Plate" 3 ⟨"java/lang/Object", "<init>", "()V"⟩ ∈ gp_ws := gp_in1 (i := 34) rfl rfl
theorem iw_1_35 : Cond.classLink "GoldPlate$Plate" 9 "GoldPlate$Mark" ∈ gp_ws := gp_in1 (i := 35) rfl rfl
theorem iw_1_37 : Cond.instantiable "GoldPlate$Mark" 9 ∈ gp_ws := gp_in1 (i := 37) rfl rfl
theorem iw_1_39 : Cond.instanceMethod ⟨"GoldPlate$Mark", "<init>", "()V"⟩ ∈ gp_ws := gp_in1 (i := 39) rfl rfl
theorem iw_1_40 : Cond.code ⟨"GoldPlate$Mark", "<init>", "()V"⟩ prog_4_method_1_code 1 none ∈ gp_ws := gp_in1 (i := 40) rfl rfl
theorem iw_1_41 : Cond.methodLink "GoldPlate$Mark" 3 ⟨"java/lang/Object", "<init>", "()V"⟩ ∈ gp_ws := gp_in1 (i := 41) rfl rfl
theorem iw_1_42 : Cond.fieldLink "GoldPlate" 98 "GoldPlate$Mark" "kind" "I" ∈ gp_ws := gp_in1 (i := 42) rfl rfl
theorem iw_1_43 : Cond.fieldLink "GoldPlate$Plate" 35 "GoldPlate$Mark" "kind" "I" ∈ gp_ws := gp_in1 (i := 43) rfl rfl
theorem iw_1_44 : Cond.fieldLink "GoldPlate$Search" 97 "GoldPlate$Mark" "kind" "I" ∈ gp_ws := gp_in1 (i := 44) rfl rfl
theorem iw_1_45 : Cond.fieldLink "GoldPlate$Mark" 18 "GoldPlate$Mark" "thing" "I" ∈ gp_ws := gp_in1 (i := 45) rfl rfl
theorem iw_1_46 : Cond.fieldLink "GoldPlate" 103 "GoldPlate$Mark" "thing" "I" ∈ gp_ws := gp_in1 (i := 46) rfl rfl
theorem iw_1_47 : Cond.fieldLink "GoldPlate$Chooser" 96 "GoldPlate$Mark" "thing" "I" ∈ gp_ws := gp_in1 (i := 47) rfl rfl
theorem iw_1_48 : Cond.fieldLink "GoldPlate$Plate" 68 "GoldPlate$Mark" "thing" "I" ∈ gp_ws := gp_in1 (i := 48) rfl rfl
theorem iw_1_49 : Cond.fieldLink "GoldPlate" 106 "GoldPlate$Mark" "cost" "I" ∈ gp_ws := gp_in1 (i := 49) rfl rfl
theorem iw_1_50 : Cond.fieldLink "GoldPlate$Chooser" 84 "GoldPlate$Mark" "cost" "I" ∈ gp_ws := gp_in1 (i := 50) rfl rfl
theorem iw_1_51 : Cond.fieldLink "GoldPlate$Search" 100 "GoldPlate$Mark" "cost" "I" ∈ gp_ws := gp_in1 (i := 51) rfl rfl
theorem iw_1_52 : Cond.fieldLink "GoldPlate" 109 "GoldPlate$Mark" "depth" "I" ∈ gp_ws := gp_in1 (i := 52) rfl rfl
theorem iw_1_53 : Cond.fieldLink "GoldPlate$Plate" 29 "GoldPlate$Mark" "depth" "I" ∈ gp_ws := gp_in1 (i := 53) rfl rfl
theorem iw_1_54 : Cond.fieldLink "GoldPlate" 112 "GoldPlate$Mark" "senses" "I" ∈ gp_ws := gp_in1 (i := 54) rfl rfl
theorem iw_1_55 : Cond.fieldLink "GoldPlate$Plate" 51 "GoldPlate$Mark" "senses" "I" ∈ gp_ws := gp_in1 (i := 55) rfl rfl
theorem iw_1_56 : Cond.fieldLink "GoldPlate$Search" 80 "GoldPlate$Mark" "needs" "I" ∈ gp_ws := gp_in1 (i := 56) rfl rfl
theorem iw_1_57 : Cond.fieldLink "GoldPlate" 133 "GoldPlate$Mark" "needs" "I" ∈ gp_ws := gp_in1 (i := 57) rfl rfl
theorem iw_1_58 : Cond.fieldLink "GoldPlate$Chooser" 93 "GoldPlate$Mark" "needs" "I" ∈ gp_ws := gp_in1 (i := 58) rfl rfl
theorem iw_1_59 : Cond.fieldLink "GoldPlate$Plate" 42 "GoldPlate$Mark" "needs" "I" ∈ gp_ws := gp_in1 (i := 59) rfl rfl
theorem iw_1_60 : Cond.fieldLink "GoldPlate$Search" 72 "GoldPlate$Mark" "knows" "I" ∈ gp_ws := gp_in1 (i := 60) rfl rfl
theorem iw_1_61 : Cond.fieldLink "GoldPlate" 136 "GoldPlate$Mark" "knows" "I" ∈ gp_ws := gp_in1 (i := 61) rfl rfl
theorem iw_1_62 : Cond.fieldLink "GoldPlate$Plate" 60 "GoldPlate$Mark" "knows" "I" ∈ gp_ws := gp_in1 (i := 62) rfl rfl
theorem iw_1_63 : Cond.fieldLink "GoldPlate$Mark" 9 "GoldPlate$Mark" "first" "I" ∈ gp_ws := gp_in1 (i := 63) rfl rfl
theorem iw_1_64 : Cond.fieldLink "GoldPlate$Search" 83 "GoldPlate$Mark" "first" "I" ∈ gp_ws := gp_in1 (i := 64) rfl rfl
theorem iw_1_65 : Cond.fieldLink "GoldPlate" 145 "GoldPlate$Mark" "first" "I" ∈ gp_ws := gp_in1 (i := 65) rfl rfl
theorem iw_1_66 : Cond.fieldLink "GoldPlate$Mark" 15 "GoldPlate$Mark" "second" "I" ∈ gp_ws := gp_in1 (i := 66) rfl rfl
theorem iw_1_67 : Cond.fieldLink "GoldPlate$Search" 86 "GoldPlate$Mark" "second" "I" ∈ gp_ws := gp_in1 (i := 67) rfl rfl
theorem iw_1_68 : Cond.fieldLink "GoldPlate" 139 "GoldPlate$Mark" "second" "I" ∈ gp_ws := gp_in1 (i := 68) rfl rfl
theorem iw_1_69 : Cond.lays "GoldPlate$Mark" "GoldPlate$Mark" "kind" "I" ∈ gp_ws := gp_in1 (i := 69) rfl rfl
theorem iw_1_71 : Cond.lays "GoldPlate$Mark" "GoldPlate$Mark" "thing" "I" ∈ gp_ws := gp_in1 (i := 71) rfl rfl
theorem iw_1_73 : Cond.lays "GoldPlate$Mark" "GoldPlate$Mark" "cost" "I" ∈ gp_ws := gp_in1 (i := 73) rfl rfl
theorem iw_1_75 : Cond.lays "GoldPlate$Mark" "GoldPlate$Mark" "depth" "I" ∈ gp_ws := gp_in1 (i := 75) rfl rfl
theorem iw_1_77 : Cond.lays "GoldPlate$Mark" "GoldPlate$Mark" "senses" "I" ∈ gp_ws := gp_in1 (i := 77) rfl rfl
theorem iw_1_79 : Cond.lays "GoldPlate$Mark" "GoldPlate$Mark" "needs" "I" ∈ gp_ws := gp_in1 (i := 79) rfl rfl
theorem iw_1_81 : Cond.lays "GoldPlate$Mark" "GoldPlate$Mark" "knows" "I" ∈ gp_ws := gp_in1 (i := 81) rfl rfl
theorem iw_1_83 : Cond.lays "GoldPlate$Mark" "GoldPlate$Mark" "first" "I" ∈ gp_ws := gp_in1 (i := 83) rfl rfl
theorem iw_1_85 : Cond.lays "GoldPlate$Mark" "GoldPlate$Mark" "second" "I" ∈ gp_ws := gp_in1 (i := 85) rfl rfl
theorem iw_1_88 : Cond.arrayClass .int ∈ gp_ws := gp_in1 (i := 88) rfl rfl
theorem iw_1_89 : Cond.fieldLink "GoldPlate$Plate" 11 "GoldPlate$Plate" "marks" "[LGoldPlate$Mark;" ∈ gp_ws := gp_in1 (i := 89) rfl rfl
theorem iw_1_90 : Cond.fieldLink "GoldPlate$Search" 52 "GoldPlate$Plate" "marks" "[LGoldPlate$Mark;" ∈ gp_ws := gp_in1 (i := 90) rfl rfl
theorem iw_1_91 : Cond.fieldLink "GoldPlate" 94 "GoldPlate$Plate" "marks" "[LGoldPlate$Mark;" ∈ gp_ws := gp_in1 (i := 91) rfl rfl
theorem iw_1_92 : Cond.fieldLink "GoldPlate$Chooser" 80 "GoldPlate$Plate" "marks" "[LGoldPlate$Mark;" ∈ gp_ws := gp_in1 (i := 92) rfl rfl
theorem iw_1_93 : Cond.fieldLink "GoldPlate$Plate" 17 "GoldPlate$Plate" "hardness" "[I" ∈ gp_ws := gp_in1 (i := 93) rfl rfl
theorem iw_1_94 : Cond.fieldLink "GoldPlate" 148 "GoldPlate$Plate" "hardness" "[I" ∈ gp_ws := gp_in1 (i := 94) rfl rfl
theorem iw_1_95 : Cond.fieldLink "GoldPlate$Plate" 21 "GoldPlate$Plate" "chains" "[I" ∈ gp_ws := gp_in1 (i := 95) rfl rfl
theorem iw_1_96 : Cond.fieldLink "GoldPlate$Chooser" 29 "GoldPlate$Plate" "size" "I" ∈ gp_ws := gp_in1 (i := 96) rfl rfl
theorem iw_1_97 : Cond.fieldLink "GoldPlate$Plate" 25 "GoldPlate$Plate" "size" "I" ∈ gp_ws := gp_in1 (i := 97) rfl rfl
theorem iw_1_98 : Cond.fieldLink "GoldPlate" 90 "GoldPlate$Plate" "size" "I" ∈ gp_ws := gp_in1 (i := 98) rfl rfl
theorem iw_1_99 : Cond.fieldLink "GoldPlate$Chooser" 69 "GoldPlate$Plate" "now" "I" ∈ gp_ws := gp_in1 (i := 99) rfl rfl
theorem iw_1_100 : Cond.fieldLink "GoldPlate$Plate" 32 "GoldPlate$Plate" "now" "I" ∈ gp_ws := gp_in1 (i := 100) rfl rfl
theorem iw_1_101 : Cond.fieldLink "GoldPlate" 152 "GoldPlate$Plate" "now" "I" ∈ gp_ws := gp_in1 (i := 101) rfl rfl
theorem iw_1_102 : Cond.laysFinal "GoldPlate$Plate" "GoldPlate$Plate" "marks" "[LGoldPlate$Mark;" ∈ gp_ws := gp_in1 (i := 102) rfl rfl
theorem iw_1_104 : Cond.laysFinal "GoldPlate$Plate" "GoldPlate$Plate" "hardness" "[I" ∈ gp_ws := gp_in1 (i := 104) rfl rfl
theorem iw_1_106 : Cond.laysFinal "GoldPlate$Plate" "GoldPlate$Plate" "chains" "[I" ∈ gp_ws := gp_in1 (i := 106) rfl rfl
theorem iw_1_108 : Cond.lays "GoldPlate$Plate" "GoldPlate$Plate" "size" "I" ∈ gp_ws := gp_in1 (i := 108) rfl rfl
theorem iw_1_110 : Cond.lays "GoldPlate$Plate" "GoldPlate$Plate" "now" "I" ∈ gp_ws := gp_in1 (i := 110) rfl rfl
theorem iw_1_113 : Cond.classLink "GoldPlate" 12 "GoldPlate$Mind" ∈ gp_ws := gp_in1 (i := 113) rfl rfl
theorem iw_1_115 : Cond.instantiable "GoldPlate$Mind" 14 ∈ gp_ws := gp_in1 (i := 115) rfl rfl
theorem iw_1_117 : Cond.instanceMethod ⟨"GoldPlate$Mind", "<init>", "()V"⟩ ∈ gp_ws := gp_in1 (i := 117) rfl rfl
theorem iw_1_118 : Cond.code ⟨"GoldPlate$Mind", "<init>", "()V"⟩ prog_5_method_1_code 1 none ∈ gp_ws := gp_in1 (i := 118) rfl rfl
theorem iw_1_119 : Cond.methodLink "GoldPlate$Mind" 3 ⟨"java/lang/Object", "<init>", "()V"⟩ ∈ gp_ws := gp_in1 (i := 119) rfl rfl
theorem iw_1_120 : Cond.fieldLink "GoldPlate$Mind" 9 "GoldPlate$Mind" "code" "[I" ∈ gp_ws := gp_in1 (i := 120) rfl rfl
theorem iw_1_121 : Cond.fieldLink "GoldPlate$Parser" 185 "GoldPlate$Mind" "code" "[I" ∈ gp_ws := gp_in1 (i := 121) rfl rfl
theorem iw_1_122 : Cond.fieldLink "GoldPlate$Mind" 15 "GoldPlate$Mind" "priceFrom" "[I" ∈ gp_ws := gp_in1 (i := 122) rfl rfl
theorem iw_1_123 : Cond.fieldLink "GoldPlate$Parser" 129 "GoldPlate$Mind" "priceFrom" "[I" ∈ gp_ws := gp_in1 (i := 123) rfl rfl
theorem iw_1_124 : Cond.fieldLink "GoldPlate$Mind" 18 "GoldPlate$Mind" "priceWhen" "[I" ∈ gp_ws := gp_in1 (i := 124) rfl rfl
theorem iw_1_125 : Cond.fieldLink "GoldPlate$Parser" 138 "GoldPlate$Mind" "priceWhen" "[I" ∈ gp_ws := gp_in1 (i := 125) rfl rfl
theorem iw_1_126 : Cond.fieldLink "GoldPlate$Mind" 21 "GoldPlate$Mind" "priceTo" "[I" ∈ gp_ws := gp_in1 (i := 126) rfl rfl
theorem iw_1_127 : Cond.fieldLink "GoldPlate$Parser" 144 "GoldPlate$Mind" "priceTo" "[I" ∈ gp_ws := gp_in1 (i := 127) rfl rfl
theorem iw_1_128 : Cond.fieldLink "GoldPlate$Mind" 24 "GoldPlate$Mind" "senses" "I" ∈ gp_ws := gp_in1 (i := 128) rfl rfl
theorem iw_1_129 : Cond.fieldLink "GoldPlate$Plate" 54 "GoldPlate$Mind" "senses" "I" ∈ gp_ws := gp_in1 (i := 129) rfl rfl
theorem iw_1_130 : Cond.fieldLink "GoldPlate$Parser" 159 "GoldPlate$Mind" "senses" "I" ∈ gp_ws := gp_in1 (i := 130) rfl rfl
theorem iw_1_131 : Cond.fieldLink "GoldPlate$Mind" 28 "GoldPlate$Mind" "knows" "I" ∈ gp_ws := gp_in1 (i := 131) rfl rfl
theorem iw_1_132 : Cond.fieldLink "GoldPlate$Search" 77 "GoldPlate$Mind" "knows" "I" ∈ gp_ws := gp_in1 (i := 132) rfl rfl
theorem iw_1_133 : Cond.fieldLink "GoldPlate$Plate" 63 "GoldPlate$Mind" "knows" "I" ∈ gp_ws := gp_in1 (i := 133) rfl rfl
theorem iw_1_134 : Cond.fieldLink "GoldPlate$Parser" 162 "GoldPlate$Mind" "knows" "I" ∈ gp_ws := gp_in1 (i := 134) rfl rfl
theorem iw_1_135 : Cond.fieldLink "GoldPlate$Mind" 31 "GoldPlate$Mind" "hand" "I" ∈ gp_ws := gp_in1 (i := 135) rfl rfl
theorem iw_1_136 : Cond.fieldLink "GoldPlate$Parser" 165 "GoldPlate$Mind" "hand" "I" ∈ gp_ws := gp_in1 (i := 136) rfl rfl
theorem iw_1_137 : Cond.fieldLink "GoldPlate" 263 "GoldPlate$Mind" "hand" "I" ∈ gp_ws := gp_in1 (i := 137) rfl rfl
theorem iw_1_138 : Cond.fieldLink "GoldPlate$Mind" 34 "GoldPlate$Mind" "lines" "I" ∈ gp_ws := gp_in1 (i := 138) rfl rfl
theorem iw_1_139 : Cond.fieldLink "GoldPlate$Parser" 123 "GoldPlate$Mind" "lines" "I" ∈ gp_ws := gp_in1 (i := 139) rfl rfl
theorem iw_1_140 : Cond.fieldLink "GoldPlate" 203 "GoldPlate$Mind" "lines" "I" ∈ gp_ws := gp_in1 (i := 140) rfl rfl
theorem iw_1_141 : Cond.fieldLink "GoldPlate$Mind" 37 "GoldPlate$Mind" "prices" "I" ∈ gp_ws := gp_in1 (i := 141) rfl rfl
theorem iw_1_142 : Cond.fieldLink "GoldPlate$Parser" 126 "GoldPlate$Mind" "prices" "I" ∈ gp_ws := gp_in1 (i := 142) rfl rfl
theorem iw_1_143 : Cond.fieldLink "GoldPlate$Mind" 40 "GoldPlate$Mind" "codeSize" "I" ∈ gp_ws := gp_in1 (i := 143) rfl rfl
theorem iw_1_144 : Cond.fieldLink "GoldPlate$Parser" 132 "GoldPlate$Mind" "codeSize" "I" ∈ gp_ws := gp_in1 (i := 144) rfl rfl
theorem iw_1_145 : Cond.fieldLink "GoldPlate$Mind" 43 "GoldPlate$Mind" "tryFrom" "I" ∈ gp_ws := gp_in1 (i := 145) rfl rfl
theorem iw_1_146 : Cond.fieldLink "GoldPlate$Parser" 147 "GoldPlate$Mind" "tryFrom" "I" ∈ gp_ws := gp_in1 (i := 146) rfl rfl
theorem iw_1_147 : Cond.fieldLink "GoldPlate$Mind" 46 "GoldPlate$Mind" "tryTo" "I" ∈ gp_ws := gp_in1 (i := 147) rfl rfl
theorem iw_1_148 : Cond.fieldLink "GoldPlate$Parser" 150 "GoldPlate$Mind" "tryTo" "I" ∈ gp_ws := gp_in1 (i := 148) rfl rfl
theorem iw_1_149 : Cond.fieldLink "GoldPlate$Mind" 49 "GoldPlate$Mind" "twinned" "Z" ∈ gp_ws := gp_in1 (i := 149) rfl rfl
theorem iw_1_150 : Cond.fieldLink "GoldPlate$Parser" 116 "GoldPlate$Mind" "twinned" "Z" ∈ gp_ws := gp_in1 (i := 150) rfl rfl
theorem iw_1_151 : Cond.fieldLink "GoldPlate$Mind" 53 "GoldPlate$Mind" "tries" "Z" ∈ gp_ws := gp_in1 (i := 151) rfl rfl
theorem iw_1_152 : Cond.fieldLink "GoldPlate$Parser" 120 "GoldPlate$Mind" "tries" "Z" ∈ gp_ws := gp_in1 (i := 152) rfl rfl
theorem iw_1_153 : Cond.laysFinal "GoldPlate$Mind" "GoldPlate$Mind" "code" "[I" ∈ gp_ws := gp_in1 (i := 153) rfl rfl
theorem iw_1_155 : Cond.laysFinal "GoldPlate$Mind" "GoldPlate$Mind" "priceFrom" "[I" ∈ gp_ws := gp_in1 (i := 155) rfl rfl
theorem iw_1_157 : Cond.laysFinal "GoldPlate$Mind" "GoldPlate$Mind" "priceWhen" "[I" ∈ gp_ws := gp_in1 (i := 157) rfl rfl
theorem iw_1_159 : Cond.laysFinal "GoldPlate$Mind" "GoldPlate$Mind" "priceTo" "[I" ∈ gp_ws := gp_in1 (i := 159) rfl rfl
theorem iw_1_161 : Cond.lays "GoldPlate$Mind" "GoldPlate$Mind" "senses" "I" ∈ gp_ws := gp_in1 (i := 161) rfl rfl
theorem iw_1_163 : Cond.lays "GoldPlate$Mind" "GoldPlate$Mind" "knows" "I" ∈ gp_ws := gp_in1 (i := 163) rfl rfl
theorem iw_1_165 : Cond.lays "GoldPlate$Mind" "GoldPlate$Mind" "hand" "I" ∈ gp_ws := gp_in1 (i := 165) rfl rfl
theorem iw_1_167 : Cond.lays "GoldPlate$Mind" "GoldPlate$Mind" "lines" "I" ∈ gp_ws := gp_in1 (i := 167) rfl rfl
theorem iw_1_169 : Cond.lays "GoldPlate$Mind" "GoldPlate$Mind" "prices" "I" ∈ gp_ws := gp_in1 (i := 169) rfl rfl
theorem iw_1_171 : Cond.lays "GoldPlate$Mind" "GoldPlate$Mind" "codeSize" "I" ∈ gp_ws := gp_in1 (i := 171) rfl rfl
theorem iw_1_173 : Cond.lays "GoldPlate$Mind" "GoldPlate$Mind" "tryFrom" "I" ∈ gp_ws := gp_in1 (i := 173) rfl rfl
theorem iw_1_175 : Cond.lays "GoldPlate$Mind" "GoldPlate$Mind" "tryTo" "I" ∈ gp_ws := gp_in1 (i := 175) rfl rfl
theorem iw_1_177 : Cond.lays "GoldPlate$Mind" "GoldPlate$Mind" "twinned" "Z" ∈ gp_ws := gp_in1 (i := 177) rfl rfl
theorem iw_1_179 : Cond.lays "GoldPlate$Mind" "GoldPlate$Mind" "tries" "Z" ∈ gp_ws := gp_in1 (i := 179) rfl rfl
theorem iw_1_182 : Cond.classLink "GoldPlate" 15 "GoldPlate$Sums" ∈ gp_ws := gp_in1 (i := 182) rfl rfl
theorem iw_1_183 : Cond.instantiable "GoldPlate$Sums" 3 ∈ gp_ws := gp_in1 (i := 183) rfl rfl
theorem iw_1_185 : Cond.instanceMethod ⟨"GoldPlate$Sums", "<init>", "()V"⟩ ∈ gp_ws := gp_in1 (i := 185) rfl rfl
theorem iw_1_186 : Cond.code ⟨"GoldPlate$Sums", "<init>", "()V"⟩ prog_10_method_1_code 1 none ∈ gp_ws := gp_in1 (i := 186) rfl rfl
theorem iw_1_187 : Cond.methodLink "GoldPlate$Sums" 1 ⟨"java/lang/Object", "<init>", "()V"⟩ ∈ gp_ws := gp_in1 (i := 187) rfl rfl
theorem iw_1_188 : Cond.fieldLink "GoldPlate$Sums" 9 "GoldPlate$Sums" "values" "[I" ∈ gp_ws := gp_in1 (i := 188) rfl rfl
theorem iw_1_189 : Cond.fieldLink "GoldPlate$Widths" 46 "GoldPlate$Sums" "values" "[I" ∈ gp_ws := gp_in1 (i := 189) rfl rfl
theorem iw_1_190 : Cond.fieldLink "GoldPlate$Search" 94 "GoldPlate$Sums" "values" "[I" ∈ gp_ws := gp_in1 (i := 190) rfl rfl
theorem iw_1_191 : Cond.fieldLink "GoldPlate$Sums" 13 "GoldPlate$Sums" "stack" "[I" ∈ gp_ws := gp_in1 (i := 191) rfl rfl
theorem iw_1_192 : Cond.fieldLink "GoldPlate$Sums" 16 "GoldPlate$Sums" "top" "I" ∈ gp_ws := gp_in1 (i := 192) rfl rfl
theorem iw_1_193 : Cond.laysFinal "GoldPlate$Sums" "GoldPlate$Sums" "values" "[I" ∈ gp_ws := gp_in1 (i := 193) rfl rfl
theorem iw_1_195 : Cond.laysFinal "GoldPlate$Sums" "GoldPlate$Sums" "stack" "[I" ∈ gp_ws := gp_in1 (i := 195) rfl rfl
theorem iw_1_197 : Cond.lays "GoldPlate$Sums" "GoldPlate$Sums" "top" "I" ∈ gp_ws := gp_in1 (i := 197) rfl rfl
theorem iw_1_200 : Cond.classLink "GoldPlate" 30 "GoldPlate$Parser" ∈ gp_ws := gp_in1 (i := 200) rfl rfl
theorem iw_1_201 : Cond.instantiable "GoldPlate$Parser" 10 ∈ gp_ws := gp_in1 (i := 201) rfl rfl
theorem iw_1_203 : Cond.instanceMethod ⟨"GoldPlate$Parser", "<init>", "()V"⟩ ∈ gp_ws := gp_in1 (i := 203) rfl rfl
theorem iw_1_204 : Cond.code ⟨"GoldPlate$Parser", "<init>", "()V"⟩ prog_6_method_1_code 1 none ∈ gp_ws := gp_in1 (i := 204) rfl rfl
theorem iw_1_205 : Cond.methodLink "GoldPlate$Parser" 3 ⟨"java/lang/Object", "<init>", "()V"⟩ ∈ gp_ws := gp_in1 (i := 205) rfl rfl
theorem iw_1_206 : Cond.classLink "GoldPlate$Parser" 28 "GoldPlate$Mind" ∈ gp_ws := gp_in1 (i := 206) rfl rfl
theorem iw_1_208 : Cond.fieldLink "GoldPlate$Parser" 9 "GoldPlate$Parser" "bytes" "[I" ∈ gp_ws := gp_in1 (i := 208) rfl rfl
theorem iw_1_209 : Cond.fieldLink "GoldPlate$Parser" 15 "GoldPlate$Parser" "kinds" "[I" ∈ gp_ws := gp_in1 (i := 209) rfl rfl
theorem iw_1_210 : Cond.fieldLink "GoldPlate$Parser" 18 "GoldPlate$Parser" "numbers" "[I" ∈ gp_ws := gp_in1 (i := 210) rfl rfl
theorem iw_1_211 : Cond.fieldLink "GoldPlate$Parser" 21 "GoldPlate$Parser" "spots" "[I" ∈ gp_ws := gp_in1 (i := 211) rfl rfl
theorem iw_1_212 : Cond.fieldLink "GoldPlate$Parser" 35 "GoldPlate$Parser" "size" "I" ∈ gp_ws := gp_in1 (i := 212) rfl rfl
theorem iw_1_213 : Cond.fieldLink "GoldPlate" 181 "GoldPlate$Parser" "size" "I" ∈ gp_ws := gp_in1 (i := 213) rfl rfl
theorem iw_1_214 : Cond.fieldLink "GoldPlate$Parser" 41 "GoldPlate$Parser" "tokens" "I" ∈ gp_ws := gp_in1 (i := 214) rfl rfl
theorem iw_1_215 : Cond.fieldLink "GoldPlate$Parser" 100 "GoldPlate$Parser" "at" "I" ∈ gp_ws := gp_in1 (i := 215) rfl rfl
theorem iw_1_216 : Cond.fieldLink "GoldPlate$Parser" 38 "GoldPlate$Parser" "fault" "I" ∈ gp_ws := gp_in1 (i := 216) rfl rfl
theorem iw_1_217 : Cond.fieldLink "GoldPlate" 206 "GoldPlate$Parser" "fault" "I" ∈ gp_ws := gp_in1 (i := 217) rfl rfl
theorem iw_1_218 : Cond.fieldLink "GoldPlate$Parser" 24 "GoldPlate$Parser" "faultPlace" "I" ∈ gp_ws := gp_in1 (i := 218) rfl rfl
theorem iw_1_219 : Cond.fieldLink "GoldPlate" 209 "GoldPlate$Parser" "faultPlace" "I" ∈ gp_ws := gp_in1 (i := 219) rfl rfl
theorem iw_1_220 : Cond.fieldLink "GoldPlate$Parser" 31 "GoldPlate$Parser" "draft" "LGoldPlate$Mind;" ∈ gp_ws := gp_in1 (i := 220) rfl rfl
theorem iw_1_221 : Cond.fieldLink "GoldPlate" 199 "GoldPlate$Parser" "draft" "LGoldPlate$Mind;" ∈ gp_ws := gp_in1 (i := 221) rfl rfl
theorem iw_1_222 : Cond.laysFinal "GoldPlate$Parser" "GoldPlate$Parser" "bytes" "[I" ∈ gp_ws := gp_in1 (i := 222) rfl rfl
theorem iw_1_224 : Cond.laysFinal "GoldPlate$Parser" "GoldPlate$Parser" "kinds" "[I" ∈ gp_ws := gp_in1 (i := 224) rfl rfl
theorem iw_1_226 : Cond.laysFinal "GoldPlate$Parser" "GoldPlate$Parser" "numbers" "[I" ∈ gp_ws := gp_in1 (i := 226) rfl rfl
theorem iw_1_228 : Cond.laysFinal "GoldPlate$Parser" "GoldPlate$Parser" "spots" "[I" ∈ gp_ws := gp_in1 (i := 228) rfl rfl
theorem iw_1_230 : Cond.lays "GoldPlate$Parser" "GoldPlate$Parser" "size" "I" ∈ gp_ws := gp_in1 (i := 230) rfl rfl
theorem iw_1_232 : Cond.lays "GoldPlate$Parser" "GoldPlate$Parser" "tokens" "I" ∈ gp_ws := gp_in1 (i := 232) rfl rfl
theorem iw_1_234 : Cond.lays "GoldPlate$Parser" "GoldPlate$Parser" "at" "I" ∈ gp_ws := gp_in1 (i := 234) rfl rfl
theorem iw_1_236 : Cond.lays "GoldPlate$Parser" "GoldPlate$Parser" "fault" "I" ∈ gp_ws := gp_in1 (i := 236) rfl rfl
theorem iw_1_238 : Cond.lays "GoldPlate$Parser" "GoldPlate$Parser" "faultPlace" "I" ∈ gp_ws := gp_in1 (i := 238) rfl rfl
theorem iw_2_0 : Cond.lays "GoldPlate$Parser" "GoldPlate$Parser" "draft" "LGoldPlate$Mind;" ∈ gp_ws := gp_in2 (i := 0) rfl rfl
theorem iw_2_3 : Cond.classLink "GoldPlate" 37 "GoldPlate$Search" ∈ gp_ws := gp_in2 (i := 3) rfl rfl
theorem iw_2_4 : Cond.instantiable "GoldPlate$Search" 13 ∈ gp_ws := gp_in2 (i := 4) rfl rfl
theorem iw_2_5 : Cond.methodLink "GoldPlate" 39 ⟨"GoldPlate$Search", "<init>", "(LGoldPlate$Plate;LGoldPlate$Sums;)V"⟩ ∈ gp_ws := gp_in2 (i := 5) rfl rfl
theorem iw_2_6 : Cond.instanceMethod ⟨"GoldPlate$Search", "<init>", "(LGoldPlate$Plate;LGoldPlate$Sums;)V"⟩ ∈ gp_ws := gp_in2 (i := 6) rfl rfl
theorem iw_2_7 : Cond.code ⟨"GoldPlate$Search", "<init>", "(LGoldPlate$Plate;LGoldPlate$Sums;)V"⟩ prog_8_method_1_code 3 none ∈ gp_ws := gp_in2 (i := 7) rfl rfl
theorem iw_2_8 : Cond.methodLink "GoldPlate$Search" 3 ⟨"java/lang/Object", "<init>", "()V"⟩ ∈ gp_ws := gp_in2 (i := 8) rfl rfl
theorem iw_2_9 : Cond.fieldLink "GoldPlate$Search" 30 "GoldPlate$Search" "plate" "LGoldPlate$Plate;" ∈ gp_ws := gp_in2 (i := 9) rfl rfl
theorem iw_2_10 : Cond.fieldLink "GoldPlate$Search" 34 "GoldPlate$Search" "sums" "LGoldPlate$Sums;" ∈ gp_ws := gp_in2 (i := 10) rfl rfl
theorem iw_2_11 : Cond.fieldLink "GoldPlate$Search" 9 "GoldPlate$Search" "marks" "[I" ∈ gp_ws := gp_in2 (i := 11) rfl rfl
theorem iw_2_12 : Cond.fieldLink "GoldPlate$Search" 15 "GoldPlate$Search" "allowed" "[I" ∈ gp_ws := gp_in2 (i := 12) rfl rfl
theorem iw_2_13 : Cond.fieldLink "GoldPlate$Search" 18 "GoldPlate$Search" "prices" "[I" ∈ gp_ws := gp_in2 (i := 13) rfl rfl
theorem iw_2_14 : Cond.fieldLink "GoldPlate$Search" 21 "GoldPlate$Search" "floors" "[I" ∈ gp_ws := gp_in2 (i := 14) rfl rfl
theorem iw_2_15 : Cond.fieldLink "GoldPlate$Search" 24 "GoldPlate$Search" "takings" "[I" ∈ gp_ws := gp_in2 (i := 15) rfl rfl
theorem iw_2_16 : Cond.fieldLink "GoldPlate$Search" 27 "GoldPlate$Search" "chosen" "[I" ∈ gp_ws := gp_in2 (i := 16) rfl rfl
theorem iw_2_17 : Cond.fieldLink "GoldPlate$Search" 44 "GoldPlate$Search" "size" "I" ∈ gp_ws := gp_in2 (i := 17) rfl rfl
theorem iw_2_18 : Cond.fieldLink "GoldPlate$Search" 124 "GoldPlate$Search" "limit" "I" ∈ gp_ws := gp_in2 (i := 18) rfl rfl
theorem iw_2_19 : Cond.fieldLink "GoldPlate$Search" 121 "GoldPlate$Search" "count" "I" ∈ gp_ws := gp_in2 (i := 19) rfl rfl
theorem iw_2_20 : Cond.fieldLink "GoldPlate$Search" 117 "GoldPlate$Search" "counting" "Z" ∈ gp_ws := gp_in2 (i := 20) rfl rfl
theorem iw_2_21 : Cond.fieldLink "GoldPlate$Search" 139 "GoldPlate$Search" "cheapestPrice" "I" ∈ gp_ws := gp_in2 (i := 21) rfl rfl
theorem iw_2_22 : Cond.fieldLink "GoldPlate" 226 "GoldPlate$Search" "cheapestPrice" "I" ∈ gp_ws := gp_in2 (i := 22) rfl rfl
theorem iw_2_23 : Cond.laysFinal "GoldPlate$Search" "GoldPlate$Search" "plate" "LGoldPlate$Plate;" ∈ gp_ws := gp_in2 (i := 23) rfl rfl
theorem iw_2_25 : Cond.laysFinal "GoldPlate$Search" "GoldPlate$Search" "sums" "LGoldPlate$Sums;" ∈ gp_ws := gp_in2 (i := 25) rfl rfl
theorem iw_2_27 : Cond.laysFinal "GoldPlate$Search" "GoldPlate$Search" "marks" "[I" ∈ gp_ws := gp_in2 (i := 27) rfl rfl
theorem iw_2_29 : Cond.laysFinal "GoldPlate$Search" "GoldPlate$Search" "allowed" "[I" ∈ gp_ws := gp_in2 (i := 29) rfl rfl
theorem iw_2_31 : Cond.laysFinal "GoldPlate$Search" "GoldPlate$Search" "prices" "[I" ∈ gp_ws := gp_in2 (i := 31) rfl rfl
theorem iw_2_33 : Cond.laysFinal "GoldPlate$Search" "GoldPlate$Search" "floors" "[I" ∈ gp_ws := gp_in2 (i := 33) rfl rfl
theorem iw_2_35 : Cond.laysFinal "GoldPlate$Search" "GoldPlate$Search" "takings" "[I" ∈ gp_ws := gp_in2 (i := 35) rfl rfl
theorem iw_2_37 : Cond.laysFinal "GoldPlate$Search" "GoldPlate$Search" "chosen" "[I" ∈ gp_ws := gp_in2 (i := 37) rfl rfl
theorem iw_2_39 : Cond.lays "GoldPlate$Search" "GoldPlate$Search" "size" "I" ∈ gp_ws := gp_in2 (i := 39) rfl rfl
theorem iw_2_41 : Cond.lays "GoldPlate$Search" "GoldPlate$Search" "limit" "I" ∈ gp_ws := gp_in2 (i := 41) rfl rfl
theorem iw_2_43 : Cond.lays "GoldPlate$Search" "GoldPlate$Search" "count" "I" ∈ gp_ws := gp_in2 (i := 43) rfl rfl
theorem iw_2_45 : Cond.lays "GoldPlate$Search" "GoldPlate$Search" "counting" "Z" ∈ gp_ws := gp_in2 (i := 45) rfl rfl
theorem iw_2_47 : Cond.lays "GoldPlate$Search" "GoldPlate$Search" "cheapestPrice" "I" ∈ gp_ws := gp_in2 (i := 47) rfl rfl
theorem iw_2_50 : Cond.classLink "GoldPlate" 46 "GoldPlate$Chooser" ∈ gp_ws := gp_in2 (i := 50) rfl rfl
theorem iw_2_51 : Cond.instantiable "GoldPlate$Chooser" 12 ∈ gp_ws := gp_in2 (i := 51) rfl rfl
theorem iw_2_52 : Cond.methodLink "GoldPlate" 48 ⟨"GoldPlate$Chooser", "<init>", "(LGoldPlate$Plate;[LGoldPlate$Mind;)V"⟩ ∈ gp_ws := gp_in2 (i := 52) rfl rfl
theorem iw_2_53 : Cond.instanceMethod ⟨"GoldPlate$Chooser", "<init>", "(LGoldPlate$Plate;[LGoldPlate$Mind;)V"⟩ ∈ gp_ws := gp_in2 (i := 53) rfl rfl
theorem iw_2_54 : Cond.code ⟨"GoldPlate$Chooser", "<init>", "(LGoldPlate$Plate;[LGoldPlate$Mind;)V"⟩ prog_3_method_1_code 3 none ∈ gp_ws := gp_in2 (i := 54) rfl rfl
theorem iw_2_55 : Cond.methodLink "GoldPlate$Chooser" 3 ⟨"java/lang/Object", "<init>", "()V"⟩ ∈ gp_ws := gp_in2 (i := 55) rfl rfl
theorem iw_2_56 : Cond.fieldLink "GoldPlate$Chooser" 21 "GoldPlate$Chooser" "plate" "LGoldPlate$Plate;" ∈ gp_ws := gp_in2 (i := 56) rfl rfl
theorem iw_2_57 : Cond.fieldLink "GoldPlate$Chooser" 25 "GoldPlate$Chooser" "minds" "[LGoldPlate$Mind;" ∈ gp_ws := gp_in2 (i := 57) rfl rfl
theorem iw_2_58 : Cond.fieldLink "GoldPlate$Chooser" 9 "GoldPlate$Chooser" "able" "[I" ∈ gp_ws := gp_in2 (i := 58) rfl rfl
theorem iw_2_59 : Cond.fieldLink "GoldPlate$Chooser" 15 "GoldPlate$Chooser" "rights" "[I" ∈ gp_ws := gp_in2 (i := 59) rfl rfl
theorem iw_2_60 : Cond.fieldLink "GoldPlate$Chooser" 18 "GoldPlate$Chooser" "things" "[I" ∈ gp_ws := gp_in2 (i := 60) rfl rfl
theorem iw_2_61 : Cond.fieldLink "GoldPlate$Chooser" 58 "GoldPlate$Chooser" "asked" "I" ∈ gp_ws := gp_in2 (i := 61) rfl rfl
theorem iw_2_62 : Cond.fieldLink "GoldPlate$Chooser" 41 "GoldPlate$Chooser" "size" "I" ∈ gp_ws := gp_in2 (i := 62) rfl rfl
theorem iw_2_63 : Cond.fieldLink "GoldPlate$Chooser" 42 "GoldPlate$Chooser" "budget" "I" ∈ gp_ws := gp_in2 (i := 63) rfl rfl
theorem iw_2_64 : Cond.fieldLink "GoldPlate$Chooser" 45 "GoldPlate$Chooser" "worst" "Z" ∈ gp_ws := gp_in2 (i := 64) rfl rfl
theorem iw_2_65 : Cond.fieldLink "GoldPlate$Chooser" 52 "GoldPlate$Chooser" "bestCost" "I" ∈ gp_ws := gp_in2 (i := 65) rfl rfl
theorem iw_2_66 : Cond.fieldLink "GoldPlate$Chooser" 49 "GoldPlate$Chooser" "bestSet" "I" ∈ gp_ws := gp_in2 (i := 66) rfl rfl
theorem iw_2_67 : Cond.fieldLink "GoldPlate" 319 "GoldPlate$Chooser" "bestSet" "I" ∈ gp_ws := gp_in2 (i := 67) rfl rfl
theorem iw_2_68 : Cond.fieldLink "GoldPlate$Chooser" 55 "GoldPlate$Chooser" "bestScore" "I" ∈ gp_ws := gp_in2 (i := 68) rfl rfl
theorem iw_2_69 : Cond.fieldLink "GoldPlate" 322 "GoldPlate$Chooser" "bestScore" "I" ∈ gp_ws := gp_in2 (i := 69) rfl rfl
theorem iw_2_70 : Cond.laysFinal "GoldPlate$Chooser" "GoldPlate$Chooser" "plate" "LGoldPlate$Plate;" ∈ gp_ws := gp_in2 (i := 70) rfl rfl
theorem iw_2_72 : Cond.laysFinal "GoldPlate$Chooser" "GoldPlate$Chooser" "minds" "[LGoldPlate$Mind;" ∈ gp_ws := gp_in2 (i := 72) rfl rfl
theorem iw_2_74 : Cond.laysFinal "GoldPlate$Chooser" "GoldPlate$Chooser" "able" "[I" ∈ gp_ws := gp_in2 (i := 74) rfl rfl
theorem iw_2_76 : Cond.laysFinal "GoldPlate$Chooser" "GoldPlate$Chooser" "rights" "[I" ∈ gp_ws := gp_in2 (i := 76) rfl rfl
theorem iw_2_78 : Cond.laysFinal "GoldPlate$Chooser" "GoldPlate$Chooser" "things" "[I" ∈ gp_ws := gp_in2 (i := 78) rfl rfl
theorem iw_2_80 : Cond.lays "GoldPlate$Chooser" "GoldPlate$Chooser" "asked" "I" ∈ gp_ws := gp_in2 (i := 80) rfl rfl
theorem iw_2_82 : Cond.lays "GoldPlate$Chooser" "GoldPlate$Chooser" "size" "I" ∈ gp_ws := gp_in2 (i := 82) rfl rfl
theorem iw_2_84 : Cond.lays "GoldPlate$Chooser" "GoldPlate$Chooser" "budget" "I" ∈ gp_ws := gp_in2 (i := 84) rfl rfl
theorem iw_2_86 : Cond.lays "GoldPlate$Chooser" "GoldPlate$Chooser" "worst" "Z" ∈ gp_ws := gp_in2 (i := 86) rfl rfl
theorem iw_2_88 : Cond.lays "GoldPlate$Chooser" "GoldPlate$Chooser" "bestCost" "I" ∈ gp_ws := gp_in2 (i := 88) rfl rfl
theorem iw_2_90 : Cond.lays "GoldPlate$Chooser" "GoldPlate$Chooser" "bestSet" "I" ∈ gp_ws := gp_in2 (i := 90) rfl rfl
theorem iw_2_92 : Cond.lays "GoldPlate$Chooser" "GoldPlate$Chooser" "bestScore" "I" ∈ gp_ws := gp_in2 (i := 92) rfl rfl
theorem iw_2_95 : Cond.classLink "GoldPlate" 55 "GoldPlate$BitRow" ∈ gp_ws := gp_in2 (i := 95) rfl rfl
theorem iw_2_96 : Cond.instantiable "GoldPlate$BitRow" 2 ∈ gp_ws := gp_in2 (i := 96) rfl rfl
theorem iw_2_98 : Cond.instanceMethod ⟨"GoldPlate$BitRow", "<init>", "()V"⟩ ∈ gp_ws := gp_in2 (i := 98) rfl rfl
theorem iw_2_99 : Cond.code ⟨"GoldPlate$BitRow", "<init>", "()V"⟩ prog_2_method_1_code 1 none ∈ gp_ws := gp_in2 (i := 99) rfl rfl
theorem iw_2_100 : Cond.methodLink "GoldPlate$BitRow" 3 ⟨"java/lang/Object", "<init>", "()V"⟩ ∈ gp_ws := gp_in2 (i := 100) rfl rfl
theorem iw_2_101 : Cond.fieldLink "GoldPlate$BitRow" 11 "GoldPlate$BitRow" "bits" "[B" ∈ gp_ws := gp_in2 (i := 101) rfl rfl
theorem iw_2_102 : Cond.fieldLink "GoldPlate$BitRow" 15 "GoldPlate$BitRow" "size" "I" ∈ gp_ws := gp_in2 (i := 102) rfl rfl
theorem iw_2_103 : Cond.fieldLink "GoldPlate$Widths" 20 "GoldPlate$BitRow" "size" "I" ∈ gp_ws := gp_in2 (i := 103) rfl rfl
theorem iw_2_104 : Cond.fieldLink "GoldPlate" 262 "GoldPlate$BitRow" "size" "I" ∈ gp_ws := gp_in2 (i := 104) rfl rfl
theorem iw_2_105 : Cond.laysFinal "GoldPlate$BitRow" "GoldPlate$BitRow" "bits" "[B" ∈ gp_ws := gp_in2 (i := 105) rfl rfl
theorem iw_2_107 : Cond.lays "GoldPlate$BitRow" "GoldPlate$BitRow" "size" "I" ∈ gp_ws := gp_in2 (i := 107) rfl rfl
theorem iw_2_110 : Cond.arrayClass .byte ∈ gp_ws := gp_in2 (i := 110) rfl rfl
theorem iw_2_111 : Cond.classLink "GoldPlate" 65 "GoldPlate$Widths" ∈ gp_ws := gp_in2 (i := 111) rfl rfl
theorem iw_2_112 : Cond.instantiable "GoldPlate$Widths" 3 ∈ gp_ws := gp_in2 (i := 112) rfl rfl
theorem iw_2_114 : Cond.instanceMethod ⟨"GoldPlate$Widths", "<init>", "()V"⟩ ∈ gp_ws := gp_in2 (i := 114) rfl rfl
theorem iw_2_115 : Cond.code ⟨"GoldPlate$Widths", "<init>", "()V"⟩ prog_12_method_1_code 1 none ∈ gp_ws := gp_in2 (i := 115) rfl rfl
theorem iw_2_116 : Cond.methodLink "GoldPlate$Widths" 1 ⟨"java/lang/Object", "<init>", "()V"⟩ ∈ gp_ws := gp_in2 (i := 116) rfl rfl
theorem iw_2_117 : Cond.fieldLink "GoldPlate$Widths" 9 "GoldPlate$Widths" "widths" "[I" ∈ gp_ws := gp_in2 (i := 117) rfl rfl
theorem iw_2_118 : Cond.fieldLink "GoldPlate" 256 "GoldPlate$Widths" "widths" "[I" ∈ gp_ws := gp_in2 (i := 118) rfl rfl
theorem iw_2_119 : Cond.fieldLink "GoldPlate$Widths" 13 "GoldPlate$Widths" "ranks" "[I" ∈ gp_ws := gp_in2 (i := 119) rfl rfl
theorem iw_2_120 : Cond.fieldLink "GoldPlate$Widths" 16 "GoldPlate$Widths" "count" "I" ∈ gp_ws := gp_in2 (i := 120) rfl rfl
theorem iw_2_121 : Cond.fieldLink "GoldPlate" 253 "GoldPlate$Widths" "count" "I" ∈ gp_ws := gp_in2 (i := 121) rfl rfl
theorem iw_2_122 : Cond.laysFinal "GoldPlate$Widths" "GoldPlate$Widths" "widths" "[I" ∈ gp_ws := gp_in2 (i := 122) rfl rfl
theorem iw_2_124 : Cond.laysFinal "GoldPlate$Widths" "GoldPlate$Widths" "ranks" "[I" ∈ gp_ws := gp_in2 (i := 124) rfl rfl
theorem iw_2_126 : Cond.lays "GoldPlate$Widths" "GoldPlate$Widths" "count" "I" ∈ gp_ws := gp_in2 (i := 126) rfl rfl
theorem iw_2_129 : Cond.classLink "GoldPlate" 72 "GoldPlate$Sky" ∈ gp_ws := gp_in2 (i := 129) rfl rfl
theorem iw_2_130 : Cond.instantiable "GoldPlate$Sky" 13 ∈ gp_ws := gp_in2 (i := 130) rfl rfl
theorem iw_2_132 : Cond.instanceMethod ⟨"GoldPlate$Sky", "<init>", "()V"⟩ ∈ gp_ws := gp_in2 (i := 132) rfl rfl
theorem iw_2_133 : Cond.code ⟨"GoldPlate$Sky", "<init>", "()V"⟩ prog_9_method_1_code 1 none ∈ gp_ws := gp_in2 (i := 133) rfl rfl
theorem iw_2_134 : Cond.methodLink "GoldPlate$Sky" 3 ⟨"java/lang/Object", "<init>", "()V"⟩ ∈ gp_ws := gp_in2 (i := 134) rfl rfl
theorem iw_2_135 : Cond.fieldLink "GoldPlate$Sky" 11 "GoldPlate$Sky" "periods" "[I" ∈ gp_ws := gp_in2 (i := 135) rfl rfl
theorem iw_2_136 : Cond.fieldLink "GoldPlate$Sky" 15 "GoldPlate$Sky" "slowers" "[I" ∈ gp_ws := gp_in2 (i := 136) rfl rfl
theorem iw_2_137 : Cond.fieldLink "GoldPlate$Sky" 18 "GoldPlate$Sky" "columns" "[I" ∈ gp_ws := gp_in2 (i := 137) rfl rfl
theorem iw_2_138 : Cond.fieldLink "GoldPlate$Sky" 21 "GoldPlate$Sky" "rows" "[I" ∈ gp_ws := gp_in2 (i := 138) rfl rfl
theorem iw_2_139 : Cond.fieldLink "GoldPlate$Sky" 24 "GoldPlate$Sky" "from" "[I" ∈ gp_ws := gp_in2 (i := 139) rfl rfl
theorem iw_2_140 : Cond.fieldLink "GoldPlate" 281 "GoldPlate$Sky" "from" "[I" ∈ gp_ws := gp_in2 (i := 140) rfl rfl
theorem iw_2_141 : Cond.fieldLink "GoldPlate$Sky" 27 "GoldPlate$Sky" "to" "[I" ∈ gp_ws := gp_in2 (i := 141) rfl rfl
theorem iw_2_142 : Cond.fieldLink "GoldPlate" 284 "GoldPlate$Sky" "to" "[I" ∈ gp_ws := gp_in2 (i := 142) rfl rfl
theorem iw_2_143 : Cond.fieldLink "GoldPlate$Sky" 30 "GoldPlate$Sky" "away" "[I" ∈ gp_ws := gp_in2 (i := 143) rfl rfl
theorem iw_2_144 : Cond.fieldLink "GoldPlate" 287 "GoldPlate$Sky" "away" "[I" ∈ gp_ws := gp_in2 (i := 144) rfl rfl
theorem iw_2_145 : Cond.fieldLink "GoldPlate$Sky" 33 "GoldPlate$Sky" "size" "I" ∈ gp_ws := gp_in2 (i := 145) rfl rfl
theorem iw_2_146 : Cond.fieldLink "GoldPlate" 369 "GoldPlate$Sky" "size" "I" ∈ gp_ws := gp_in2 (i := 146) rfl rfl
theorem iw_2_147 : Cond.fieldLink "GoldPlate$Sky" 37 "GoldPlate$Sky" "yearCount" "I" ∈ gp_ws := gp_in2 (i := 147) rfl rfl
theorem iw_2_148 : Cond.fieldLink "GoldPlate" 293 "GoldPlate$Sky" "yearCount" "I" ∈ gp_ws := gp_in2 (i := 148) rfl rfl
theorem iw_2_149 : Cond.fieldLink "GoldPlate$Sky" 40 "GoldPlate$Sky" "firstYear" "I" ∈ gp_ws := gp_in2 (i := 149) rfl rfl
theorem iw_2_150 : Cond.fieldLink "GoldPlate" 296 "GoldPlate$Sky" "firstYear" "I" ∈ gp_ws := gp_in2 (i := 150) rfl rfl
theorem iw_2_151 : Cond.fieldLink "GoldPlate$Sky" 43 "GoldPlate$Sky" "lastYear" "I" ∈ gp_ws := gp_in2 (i := 151) rfl rfl
theorem iw_2_152 : Cond.fieldLink "GoldPlate" 299 "GoldPlate$Sky" "lastYear" "I" ∈ gp_ws := gp_in2 (i := 152) rfl rfl
theorem iw_2_153 : Cond.fieldLink "GoldPlate$Sky" 60 "GoldPlate$Sky" "placeCount" "I" ∈ gp_ws := gp_in2 (i := 153) rfl rfl
theorem iw_2_154 : Cond.fieldLink "GoldPlate" 305 "GoldPlate$Sky" "placeCount" "I" ∈ gp_ws := gp_in2 (i := 154) rfl rfl
theorem iw_2_155 : Cond.fieldLink "GoldPlate$Sky" 63 "GoldPlate$Sky" "firstPlace" "I" ∈ gp_ws := gp_in2 (i := 155) rfl rfl
theorem iw_2_156 : Cond.fieldLink "GoldPlate" 308 "GoldPlate$Sky" "firstPlace" "I" ∈ gp_ws := gp_in2 (i := 156) rfl rfl
theorem iw_2_157 : Cond.laysFinal "GoldPlate$Sky" "GoldPlate$Sky" "periods" "[I" ∈ gp_ws := gp_in2 (i := 157) rfl rfl
theorem iw_2_159 : Cond.laysFinal "GoldPlate$Sky" "GoldPlate$Sky" "slowers" "[I" ∈ gp_ws := gp_in2 (i := 159) rfl rfl
theorem iw_2_161 : Cond.laysFinal "GoldPlate$Sky" "GoldPlate$Sky" "columns" "[I" ∈ gp_ws := gp_in2 (i := 161) rfl rfl
theorem iw_2_163 : Cond.laysFinal "GoldPlate$Sky" "GoldPlate$Sky" "rows" "[I" ∈ gp_ws := gp_in2 (i := 163) rfl rfl
theorem iw_2_165 : Cond.laysFinal "GoldPlate$Sky" "GoldPlate$Sky" "from" "[I" ∈ gp_ws := gp_in2 (i := 165) rfl rfl
theorem iw_2_167 : Cond.laysFinal "GoldPlate$Sky" "GoldPlate$Sky" "to" "[I" ∈ gp_ws := gp_in2 (i := 167) rfl rfl
theorem iw_2_169 : Cond.laysFinal "GoldPlate$Sky" "GoldPlate$Sky" "away" "[I" ∈ gp_ws := gp_in2 (i := 169) rfl rfl
theorem iw_2_171 : Cond.lays "GoldPlate$Sky" "GoldPlate$Sky" "size" "I" ∈ gp_ws := gp_in2 (i := 171) rfl rfl
theorem iw_2_173 : Cond.lays "GoldPlate$Sky" "GoldPlate$Sky" "yearCount" "I" ∈ gp_ws := gp_in2 (i := 173) rfl rfl
theorem iw_2_175 : Cond.lays "GoldPlate$Sky" "GoldPlate$Sky" "firstYear" "I" ∈ gp_ws := gp_in2 (i := 175) rfl rfl
theorem iw_2_177 : Cond.lays "GoldPlate$Sky" "GoldPlate$Sky" "lastYear" "I" ∈ gp_ws := gp_in2 (i := 177) rfl rfl
theorem iw_2_179 : Cond.lays "GoldPlate$Sky" "GoldPlate$Sky" "placeCount" "I" ∈ gp_ws := gp_in2 (i := 179) rfl rfl
theorem iw_2_181 : Cond.lays "GoldPlate$Sky" "GoldPlate$Sky" "firstPlace" "I" ∈ gp_ws := gp_in2 (i := 181) rfl rfl
theorem iw_2_184 : Cond.classLink "GoldPlate" 79 "GoldPlate$Trials" ∈ gp_ws := gp_in2 (i := 184) rfl rfl
theorem iw_2_185 : Cond.instantiable "GoldPlate$Trials" 4 ∈ gp_ws := gp_in2 (i := 185) rfl rfl
theorem iw_2_187 : Cond.instanceMethod ⟨"GoldPlate$Trials", "<init>", "()V"⟩ ∈ gp_ws := gp_in2 (i := 187) rfl rfl
theorem iw_2_188 : Cond.code ⟨"GoldPlate$Trials", "<init>", "()V"⟩ prog_11_method_1_code 1 none ∈ gp_ws := gp_in2 (i := 188) rfl rfl
theorem iw_2_189 : Cond.methodLink "GoldPlate$Trials" 3 ⟨"java/lang/Object", "<init>", "()V"⟩ ∈ gp_ws := gp_in2 (i := 189) rfl rfl
theorem iw_2_190 : Cond.fieldLink "GoldPlate$Trials" 11 "GoldPlate$Trials" "rows" "[J" ∈ gp_ws := gp_in2 (i := 190) rfl rfl
theorem iw_2_191 : Cond.fieldLink "GoldPlate" 347 "GoldPlate$Trials" "rows" "[J" ∈ gp_ws := gp_in2 (i := 191) rfl rfl
theorem iw_2_192 : Cond.fieldLink "GoldPlate$Trials" 15 "GoldPlate$Trials" "sizes" "[I" ∈ gp_ws := gp_in2 (i := 192) rfl rfl
theorem iw_2_193 : Cond.fieldLink "GoldPlate" 351 "GoldPlate$Trials" "sizes" "[I" ∈ gp_ws := gp_in2 (i := 193) rfl rfl
theorem iw_2_194 : Cond.fieldLink "GoldPlate$Trials" 19 "GoldPlate$Trials" "takings" "[I" ∈ gp_ws := gp_in2 (i := 194) rfl rfl
theorem iw_2_195 : Cond.fieldLink "GoldPlate" 357 "GoldPlate$Trials" "takings" "[I" ∈ gp_ws := gp_in2 (i := 195) rfl rfl
theorem iw_2_196 : Cond.fieldLink "GoldPlate$Trials" 22 "GoldPlate$Trials" "size" "I" ∈ gp_ws := gp_in2 (i := 196) rfl rfl
theorem iw_2_197 : Cond.fieldLink "GoldPlate" 346 "GoldPlate$Trials" "size" "I" ∈ gp_ws := gp_in2 (i := 197) rfl rfl
theorem iw_2_198 : Cond.laysFinal "GoldPlate$Trials" "GoldPlate$Trials" "rows" "[J" ∈ gp_ws := gp_in2 (i := 198) rfl rfl
theorem iw_2_200 : Cond.laysFinal "GoldPlate$Trials" "GoldPlate$Trials" "sizes" "[I" ∈ gp_ws := gp_in2 (i := 200) rfl rfl
theorem iw_2_202 : Cond.laysFinal "GoldPlate$Trials" "GoldPlate$Trials" "takings" "[I" ∈ gp_ws := gp_in2 (i := 202) rfl rfl
theorem iw_2_204 : Cond.lays "GoldPlate$Trials" "GoldPlate$Trials" "size" "I" ∈ gp_ws := gp_in2 (i := 204) rfl rfl
theorem iw_2_207 : Cond.arrayClass .long ∈ gp_ws := gp_in2 (i := 207) rfl rfl
theorem iw_2_208 : Cond.fieldLink "GoldPlate" 18 "GoldPlate" "plate" "LGoldPlate$Plate;" ∈ gp_ws := gp_in2 (i := 208) rfl rfl
theorem iw_2_209 : Cond.fieldLink "GoldPlate" 22 "GoldPlate" "minds" "[LGoldPlate$Mind;" ∈ gp_ws := gp_in2 (i := 209) rfl rfl
theorem iw_2_210 : Cond.fieldLink "GoldPlate" 33 "GoldPlate" "parser" "LGoldPlate$Parser;" ∈ gp_ws := gp_in2 (i := 210) rfl rfl
theorem iw_2_211 : Cond.fieldLink "GoldPlate" 26 "GoldPlate" "sums" "LGoldPlate$Sums;" ∈ gp_ws := gp_in2 (i := 211) rfl rfl
theorem iw_2_212 : Cond.fieldLink "GoldPlate" 42 "GoldPlate" "search" "LGoldPlate$Search;" ∈ gp_ws := gp_in2 (i := 212) rfl rfl
theorem iw_2_213 : Cond.fieldLink "GoldPlate" 51 "GoldPlate" "chooser" "LGoldPlate$Chooser;" ∈ gp_ws := gp_in2 (i := 213) rfl rfl
theorem iw_2_214 : Cond.fieldLink "GoldPlate" 58 "GoldPlate" "row" "LGoldPlate$BitRow;" ∈ gp_ws := gp_in2 (i := 214) rfl rfl
theorem iw_2_215 : Cond.fieldLink "GoldPlate" 62 "GoldPlate" "picture" "LGoldPlate$BitRow;" ∈ gp_ws := gp_in2 (i := 215) rfl rfl
theorem iw_2_216 : Cond.fieldLink "GoldPlate" 68 "GoldPlate" "folds" "LGoldPlate$Widths;" ∈ gp_ws := gp_in2 (i := 216) rfl rfl
theorem iw_2_217 : Cond.fieldLink "GoldPlate" 75 "GoldPlate" "sky" "LGoldPlate$Sky;" ∈ gp_ws := gp_in2 (i := 217) rfl rfl
theorem iw_2_218 : Cond.fieldLink "GoldPlate" 82 "GoldPlate" "trials" "LGoldPlate$Trials;" ∈ gp_ws := gp_in2 (i := 218) rfl rfl
theorem iw_2_219 : Cond.fieldLink "GoldPlate" 167 "GoldPlate" "message" "J" ∈ gp_ws := gp_in2 (i := 219) rfl rfl
theorem iw_2_220 : Cond.fieldLink "GoldPlate" 171 "GoldPlate" "messageSize" "I" ∈ gp_ws := gp_in2 (i := 220) rfl rfl
theorem iw_2_221 : Cond.laysFinal "GoldPlate" "GoldPlate" "plate" "LGoldPlate$Plate;" ∈ gp_ws := gp_in2 (i := 221) rfl rfl
theorem iw_2_223 : Cond.laysFinal "GoldPlate" "GoldPlate" "minds" "[LGoldPlate$Mind;" ∈ gp_ws := gp_in2 (i := 223) rfl rfl
theorem iw_2_225 : Cond.laysFinal "GoldPlate" "GoldPlate" "parser" "LGoldPlate$Parser;" ∈ gp_ws := gp_in2 (i := 225) rfl rfl
theorem iw_2_227 : Cond.laysFinal "GoldPlate" "GoldPlate" "sums" "LGoldPlate$Sums;" ∈ gp_ws := gp_in2 (i := 227) rfl rfl
theorem iw_2_229 : Cond.laysFinal "GoldPlate" "GoldPlate" "search" "LGoldPlate$Search;" ∈ gp_ws := gp_in2 (i := 229) rfl rfl
theorem iw_2_231 : Cond.laysFinal "GoldPlate" "GoldPlate" "chooser" "LGoldPlate$Chooser;" ∈ gp_ws := gp_in2 (i := 231) rfl rfl
theorem iw_2_233 : Cond.laysFinal "GoldPlate" "GoldPlate" "row" "LGoldPlate$BitRow;" ∈ gp_ws := gp_in2 (i := 233) rfl rfl
theorem iw_2_235 : Cond.laysFinal "GoldPlate" "GoldPlate" "picture" "LGoldPlate$BitRow;" ∈ gp_ws := gp_in2 (i := 235) rfl rfl
theorem iw_2_237 : Cond.laysFinal "GoldPlate" "GoldPlate" "folds" "LGoldPlate$Widths;" ∈ gp_ws := gp_in2 (i := 237) rfl rfl
theorem iw_2_239 : Cond.laysFinal "GoldPlate" "GoldPlate" "sky" "LGoldPlate$Sky;" ∈ gp_ws := gp_in2 (i := 239) rfl rfl
theorem iw_3_1 : Cond.laysFinal "GoldPlate" "GoldPlate" "trials" "LGoldPlate$Trials;" ∈ gp_ws := gp_in3 (i := 1) rfl rfl
theorem iw_3_3 : Cond.lays "GoldPlate" "GoldPlate" "message" "J" ∈ gp_ws := gp_in3 (i := 3) rfl rfl
theorem iw_3_5 : Cond.lays "GoldPlate" "GoldPlate" "messageSize" "I" ∈ gp_ws := gp_in3 (i := 5) rfl rfl
theorem iw_3_8 : Cond.methodLink "GoldPlateLaw" 13 ⟨"GoldPlate", "mark", "(IIIII)I"⟩ ∈ gp_ws := gp_in3 (i := 8) rfl rfl
theorem iw_3_9 : Cond.instanceMethod ⟨"GoldPlate", "mark", "(IIIII)I"⟩ ∈ gp_ws := gp_in3 (i := 9) rfl rfl
theorem iw_3_10 : Cond.selects "GoldPlate" ⟨"GoldPlate", "mark", "(IIIII)I"⟩ ⟨"GoldPlate", "mark", "(IIIII)I"⟩ ∈ gp_ws := gp_in3 (i := 10) rfl rfl
theorem iw_3_11 : Cond.code ⟨"GoldPlate", "mark", "(IIIII)I"⟩ prog_1_method_2_code 8 (some .int) ∈ gp_ws := gp_in3 (i := 11) rfl rfl
theorem iw_3_12 : Cond.methodLink "GoldPlate" 86 ⟨"GoldPlate", "within", "(III)Z"⟩ ∈ gp_ws := gp_in3 (i := 12) rfl rfl
theorem iw_3_13 : Cond.static ⟨"GoldPlate", "within", "(III)Z"⟩ ∈ gp_ws := gp_in3 (i := 13) rfl rfl
theorem iw_3_14 : Cond.code ⟨"GoldPlate", "within", "(III)Z"⟩ prog_1_method_42_code 3 (some .boolean) ∈ gp_ws := gp_in3 (i := 14) rfl rfl
theorem iw_3_15 : Cond.methodLink "GoldPlateLaw" 18 ⟨"GoldPlate", "tell", "(III)Z"⟩ ∈ gp_ws := gp_in3 (i := 15) rfl rfl
theorem iw_3_16 : Cond.instanceMethod ⟨"GoldPlate", "tell", "(III)Z"⟩ ∈ gp_ws := gp_in3 (i := 16) rfl rfl
theorem iw_3_17 : Cond.selects "GoldPlate" ⟨"GoldPlate", "tell", "(III)Z"⟩ ⟨"GoldPlate", "tell", "(III)Z"⟩ ∈ gp_ws := gp_in3 (i := 17) rfl rfl
theorem iw_3_18 : Cond.code ⟨"GoldPlate", "tell", "(III)Z"⟩ prog_1_method_3_code 5 (some .boolean) ∈ gp_ws := gp_in3 (i := 18) rfl rfl
theorem iw_3_19 : Cond.methodLink "GoldPlate" 115 ⟨"GoldPlate$Plate", "has", "(I)Z"⟩ ∈ gp_ws := gp_in3 (i := 19) rfl rfl
theorem iw_3_20 : Cond.instanceMethod ⟨"GoldPlate$Plate", "has", "(I)Z"⟩ ∈ gp_ws := gp_in3 (i := 20) rfl rfl
theorem iw_3_21 : Cond.selects "GoldPlate$Plate" ⟨"GoldPlate$Plate", "has", "(I)Z"⟩ ⟨"GoldPlate$Plate", "has", "(I)Z"⟩ ∈ gp_ws := gp_in3 (i := 21) rfl rfl
theorem iw_3_22 : Cond.code ⟨"GoldPlate$Plate", "has", "(I)Z"⟩ prog_7_method_2_code 2 (some .boolean) ∈ gp_ws := gp_in3 (i := 22) rfl rfl
theorem iw_3_23 : Cond.methodLink "GoldPlate" 119 ⟨"GoldPlate", "tellNeeds", "(LGoldPlate$Mark;II)Z"⟩ ∈ gp_ws := gp_in3 (i := 23) rfl rfl
theorem iw_3_24 : Cond.static ⟨"GoldPlate", "tellNeeds", "(LGoldPlate$Mark;II)Z"⟩ ∈ gp_ws := gp_in3 (i := 24) rfl rfl
theorem iw_3_25 : Cond.code ⟨"GoldPlate", "tellNeeds", "(LGoldPlate$Mark;II)Z"⟩ prog_1_method_4_code 3 (some .boolean) ∈ gp_ws := gp_in3 (i := 25) rfl rfl
theorem iw_3_26 : Cond.methodLink "GoldPlate" 123 ⟨"GoldPlate", "tellKnows", "(LGoldPlate$Mark;I)Z"⟩ ∈ gp_ws := gp_in3 (i := 26) rfl rfl
theorem iw_3_27 : Cond.static ⟨"GoldPlate", "tellKnows", "(LGoldPlate$Mark;I)Z"⟩ ∈ gp_ws := gp_in3 (i := 27) rfl rfl
theorem iw_3_28 : Cond.code ⟨"GoldPlate", "tellKnows", "(LGoldPlate$Mark;I)Z"⟩ prog_1_method_5_code 2 (some .boolean) ∈ gp_ws := gp_in3 (i := 28) rfl rfl
theorem iw_3_29 : Cond.methodLink "GoldPlate" 127 ⟨"GoldPlate", "tellFirst", "(LGoldPlate$Mark;I)Z"⟩ ∈ gp_ws := gp_in3 (i := 29) rfl rfl
theorem iw_3_30 : Cond.static ⟨"GoldPlate", "tellFirst", "(LGoldPlate$Mark;I)Z"⟩ ∈ gp_ws := gp_in3 (i := 30) rfl rfl
theorem iw_3_31 : Cond.code ⟨"GoldPlate", "tellFirst", "(LGoldPlate$Mark;I)Z"⟩ prog_1_method_6_code 3 (some .boolean) ∈ gp_ws := gp_in3 (i := 31) rfl rfl
theorem iw_3_32 : Cond.methodLink "GoldPlate" 142 ⟨"GoldPlate", "canBeOther", "(LGoldPlate$Mark;I)Z"⟩ ∈ gp_ws := gp_in3 (i := 32) rfl rfl
theorem iw_3_33 : Cond.static ⟨"GoldPlate", "canBeOther", "(LGoldPlate$Mark;I)Z"⟩ ∈ gp_ws := gp_in3 (i := 33) rfl rfl
theorem iw_3_34 : Cond.code ⟨"GoldPlate", "canBeOther", "(LGoldPlate$Mark;I)Z"⟩ prog_1_method_8_code 2 (some .boolean) ∈ gp_ws := gp_in3 (i := 34) rfl rfl
theorem iw_3_35 : Cond.methodLink "GoldPlate" 130 ⟨"GoldPlate", "tellSecond", "(LGoldPlate$Mark;I)Z"⟩ ∈ gp_ws := gp_in3 (i := 35) rfl rfl
theorem iw_3_36 : Cond.static ⟨"GoldPlate", "tellSecond", "(LGoldPlate$Mark;I)Z"⟩ ∈ gp_ws := gp_in3 (i := 36) rfl rfl
theorem iw_3_37 : Cond.code ⟨"GoldPlate", "tellSecond", "(LGoldPlate$Mark;I)Z"⟩ prog_1_method_7_code 3 (some .boolean) ∈ gp_ws := gp_in3 (i := 37) rfl rfl
theorem iw_3_38 : Cond.methodLink "GoldPlateLaw" 23 ⟨"GoldPlate", "hard", "(II)Z"⟩ ∈ gp_ws := gp_in3 (i := 38) rfl rfl
theorem iw_3_39 : Cond.instanceMethod ⟨"GoldPlate", "hard", "(II)Z"⟩ ∈ gp_ws := gp_in3 (i := 39) rfl rfl
theorem iw_3_40 : Cond.selects "GoldPlate" ⟨"GoldPlate", "hard", "(II)Z"⟩ ⟨"GoldPlate", "hard", "(II)Z"⟩ ∈ gp_ws := gp_in3 (i := 40) rfl rfl
theorem iw_3_41 : Cond.code ⟨"GoldPlate", "hard", "(II)Z"⟩ prog_1_method_9_code 3 (some .boolean) ∈ gp_ws := gp_in3 (i := 41) rfl rfl
theorem iw_3_42 : Cond.methodLink "GoldPlateLaw" 28 ⟨"GoldPlate", "year", "(I)Z"⟩ ∈ gp_ws := gp_in3 (i := 42) rfl rfl
theorem iw_3_43 : Cond.instanceMethod ⟨"GoldPlate", "year", "(I)Z"⟩ ∈ gp_ws := gp_in3 (i := 43) rfl rfl
theorem iw_3_44 : Cond.selects "GoldPlate" ⟨"GoldPlate", "year", "(I)Z"⟩ ⟨"GoldPlate", "year", "(I)Z"⟩ ∈ gp_ws := gp_in3 (i := 44) rfl rfl
theorem iw_3_45 : Cond.code ⟨"GoldPlate", "year", "(I)Z"⟩ prog_1_method_10_code 2 (some .boolean) ∈ gp_ws := gp_in3 (i := 45) rfl rfl
theorem iw_3_46 : Cond.methodLink "GoldPlateLaw" 33 ⟨"GoldPlate", "of", "(II)I"⟩ ∈ gp_ws := gp_in3 (i := 46) rfl rfl
theorem iw_3_47 : Cond.instanceMethod ⟨"GoldPlate", "of", "(II)I"⟩ ∈ gp_ws := gp_in3 (i := 47) rfl rfl
theorem iw_3_48 : Cond.selects "GoldPlate" ⟨"GoldPlate", "of", "(II)I"⟩ ⟨"GoldPlate", "of", "(II)I"⟩ ∈ gp_ws := gp_in3 (i := 48) rfl rfl
theorem iw_3_49 : Cond.code ⟨"GoldPlate", "of", "(II)I"⟩ prog_1_method_11_code 3 (some .int) ∈ gp_ws := gp_in3 (i := 49) rfl rfl
theorem iw_3_50 : Cond.constant "GoldPlate" 155 (-1000000) ∈ gp_ws := gp_in3 (i := 50) rfl rfl
theorem iw_3_51 : Cond.methodLink "GoldPlate" 156 ⟨"GoldPlate$Plate", "leftOf", "(LGoldPlate$Mark;)I"⟩ ∈ gp_ws := gp_in3 (i := 51) rfl rfl
theorem iw_3_52 : Cond.instanceMethod ⟨"GoldPlate$Plate", "leftOf", "(LGoldPlate$Mark;)I"⟩ ∈ gp_ws := gp_in3 (i := 52) rfl rfl
theorem iw_3_53 : Cond.selects "GoldPlate$Plate" ⟨"GoldPlate$Plate", "leftOf", "(LGoldPlate$Mark;)I"⟩ ⟨"GoldPlate$Plate", "leftOf", "(LGoldPlate$Mark;)I"⟩ ∈ gp_ws := gp_in3 (i := 53) rfl rfl
theorem iw_3_54 : Cond.code ⟨"GoldPlate$Plate", "leftOf", "(LGoldPlate$Mark;)I"⟩ prog_7_method_4_code 2 (some .int) ∈ gp_ws := gp_in3 (i := 54) rfl rfl
theorem iw_3_55 : Cond.methodLink "GoldPlate" 160 ⟨"GoldPlate$Plate", "wearOf", "(LGoldPlate$Mark;)I"⟩ ∈ gp_ws := gp_in3 (i := 55) rfl rfl
theorem iw_3_56 : Cond.instanceMethod ⟨"GoldPlate$Plate", "wearOf", "(LGoldPlate$Mark;)I"⟩ ∈ gp_ws := gp_in3 (i := 56) rfl rfl
theorem iw_3_57 : Cond.selects "GoldPlate$Plate" ⟨"GoldPlate$Plate", "wearOf", "(LGoldPlate$Mark;)I"⟩ ⟨"GoldPlate$Plate", "wearOf", "(LGoldPlate$Mark;)I"⟩ ∈ gp_ws := gp_in3 (i := 57) rfl rfl
theorem iw_3_58 : Cond.code ⟨"GoldPlate$Plate", "wearOf", "(LGoldPlate$Mark;)I"⟩ prog_7_method_5_code 3 (some .int) ∈ gp_ws := gp_in3 (i := 58) rfl rfl
theorem iw_3_59 : Cond.methodLink "GoldPlate$Plate" 38 ⟨"GoldPlate$Plate", "leftOf", "(LGoldPlate$Mark;)I"⟩ ∈ gp_ws := gp_in3 (i := 59) rfl rfl
theorem iw_3_60 : Cond.methodLink "GoldPlate" 163 ⟨"GoldPlate$Plate", "chainOf", "(I)I"⟩ ∈ gp_ws := gp_in3 (i := 60) rfl rfl
theorem iw_3_61 : Cond.instanceMethod ⟨"GoldPlate$Plate", "chainOf", "(I)I"⟩ ∈ gp_ws := gp_in3 (i := 61) rfl rfl
theorem iw_3_62 : Cond.selects "GoldPlate$Plate" ⟨"GoldPlate$Plate", "chainOf", "(I)I"⟩ ⟨"GoldPlate$Plate", "chainOf", "(I)I"⟩ ∈ gp_ws := gp_in3 (i := 62) rfl rfl
theorem iw_3_63 : Cond.code ⟨"GoldPlate$Plate", "chainOf", "(I)I"⟩ prog_7_method_6_code 5 (some .int) ∈ gp_ws := gp_in3 (i := 63) rfl rfl
theorem iw_3_64 : Cond.methodLink "GoldPlate$Plate" 45 ⟨"java/lang/Math", "max", "(II)I"⟩ ∈ gp_ws := gp_in3 (i := 64) rfl rfl
theorem iw_3_65 : Cond.static ⟨"java/lang/Math", "max", "(II)I"⟩ ∈ gp_ws := gp_in3 (i := 65) rfl rfl
theorem iw_3_66 : Cond.code ⟨"java/lang/Math", "max", "(II)I"⟩ prog_17_method_65_code 2 (some .int) ∈ gp_ws := gp_in3 (i := 66) rfl rfl
theorem iw_3_67 : Cond.methodLink "GoldPlateLaw" 38 ⟨"GoldPlate", "put", "(I)I"⟩ ∈ gp_ws := gp_in3 (i := 67) rfl rfl
theorem iw_3_68 : Cond.instanceMethod ⟨"GoldPlate", "put", "(I)I"⟩ ∈ gp_ws := gp_in3 (i := 68) rfl rfl
theorem iw_3_69 : Cond.selects "GoldPlate" ⟨"GoldPlate", "put", "(I)I"⟩ ⟨"GoldPlate", "put", "(I)I"⟩ ∈ gp_ws := gp_in3 (i := 69) rfl rfl
theorem iw_3_70 : Cond.code ⟨"GoldPlate", "put", "(I)I"⟩ prog_1_method_12_code 2 (some .int) ∈ gp_ws := gp_in3 (i := 70) rfl rfl
theorem iw_3_71 : Cond.methodLink "GoldPlate" 174 ⟨"GoldPlate", "inMessage", "(I)Z"⟩ ∈ gp_ws := gp_in3 (i := 71) rfl rfl
theorem iw_3_73 : Cond.instanceMethod ⟨"GoldPlate", "inMessage", "(I)Z"⟩ ∈ gp_ws := gp_in3 (i := 73) rfl rfl
theorem iw_3_74 : Cond.code ⟨"GoldPlate", "inMessage", "(I)Z"⟩ prog_1_method_13_code 3 (some .boolean) ∈ gp_ws := gp_in3 (i := 74) rfl rfl
theorem iw_3_75 : Cond.methodLink "GoldPlate" 177 ⟨"GoldPlate", "markAt", "(JI)I"⟩ ∈ gp_ws := gp_in3 (i := 75) rfl rfl
theorem iw_3_76 : Cond.static ⟨"GoldPlate", "markAt", "(JI)I"⟩ ∈ gp_ws := gp_in3 (i := 76) rfl rfl
theorem iw_3_77 : Cond.code ⟨"GoldPlate", "markAt", "(JI)I"⟩ prog_1_method_44_code 3 (some .int) ∈ gp_ws := gp_in3 (i := 77) rfl rfl
theorem iw_3_78 : Cond.methodLink "GoldPlateLaw" 43 ⟨"GoldPlate", "feed", "(IIIII)I"⟩ ∈ gp_ws := gp_in3 (i := 78) rfl rfl
theorem iw_3_79 : Cond.instanceMethod ⟨"GoldPlate", "feed", "(IIIII)I"⟩ ∈ gp_ws := gp_in3 (i := 79) rfl rfl
theorem iw_3_80 : Cond.selects "GoldPlate" ⟨"GoldPlate", "feed", "(IIIII)I"⟩ ⟨"GoldPlate", "feed", "(IIIII)I"⟩ ∈ gp_ws := gp_in3 (i := 80) rfl rfl
theorem iw_3_81 : Cond.code ⟨"GoldPlate", "feed", "(IIIII)I"⟩ prog_1_method_14_code 6 (some .int) ∈ gp_ws := gp_in3 (i := 81) rfl rfl
theorem iw_3_82 : Cond.methodLink "GoldPlate" 182 ⟨"GoldPlate$Parser", "addBytes", "(I)V"⟩ ∈ gp_ws := gp_in3 (i := 82) rfl rfl
theorem iw_3_83 : Cond.instanceMethod ⟨"GoldPlate$Parser", "addBytes", "(I)V"⟩ ∈ gp_ws := gp_in3 (i := 83) rfl rfl
theorem iw_3_84 : Cond.selects "GoldPlate$Parser" ⟨"GoldPlate$Parser", "addBytes", "(I)V"⟩ ⟨"GoldPlate$Parser", "addBytes", "(I)V"⟩ ∈ gp_ws := gp_in3 (i := 84) rfl rfl
theorem iw_3_85 : Cond.code ⟨"GoldPlate$Parser", "addBytes", "(I)V"⟩ prog_6_method_2_code 3 none ∈ gp_ws := gp_in3 (i := 85) rfl rfl
theorem iw_3_86 : Cond.methodLink "GoldPlateLaw" 47 ⟨"GoldPlate", "end", "(I)Z"⟩ ∈ gp_ws := gp_in3 (i := 86) rfl rfl
theorem iw_3_87 : Cond.instanceMethod ⟨"GoldPlate", "end", "(I)Z"⟩ ∈ gp_ws := gp_in3 (i := 87) rfl rfl
theorem iw_3_88 : Cond.selects "GoldPlate" ⟨"GoldPlate", "end", "(I)Z"⟩ ⟨"GoldPlate", "end", "(I)Z"⟩ ∈ gp_ws := gp_in3 (i := 88) rfl rfl
theorem iw_3_89 : Cond.code ⟨"GoldPlate", "end", "(I)Z"⟩ prog_1_method_15_code 2 (some .boolean) ∈ gp_ws := gp_in3 (i := 89) rfl rfl
theorem iw_3_90 : Cond.methodLink "GoldPlateLaw" 51 ⟨"GoldPlate", "mind", "(I)I"⟩ ∈ gp_ws := gp_in3 (i := 90) rfl rfl
theorem iw_3_91 : Cond.instanceMethod ⟨"GoldPlate", "mind", "(I)I"⟩ ∈ gp_ws := gp_in3 (i := 91) rfl rfl
theorem iw_3_92 : Cond.selects "GoldPlate" ⟨"GoldPlate", "mind", "(I)I"⟩ ⟨"GoldPlate", "mind", "(I)I"⟩ ∈ gp_ws := gp_in3 (i := 92) rfl rfl
theorem iw_3_93 : Cond.code ⟨"GoldPlate", "mind", "(I)I"⟩ prog_1_method_16_code 3 (some .int) ∈ gp_ws := gp_in3 (i := 93) rfl rfl
theorem iw_3_94 : Cond.methodLink "GoldPlate" 186 ⟨"GoldPlate", "isMind", "(I)Z"⟩ ∈ gp_ws := gp_in3 (i := 94) rfl rfl
theorem iw_3_95 : Cond.static ⟨"GoldPlate", "isMind", "(I)Z"⟩ ∈ gp_ws := gp_in3 (i := 95) rfl rfl
theorem iw_3_96 : Cond.code ⟨"GoldPlate", "isMind", "(I)Z"⟩ prog_1_method_43_code 1 (some .boolean) ∈ gp_ws := gp_in3 (i := 96) rfl rfl
theorem iw_3_97 : Cond.methodLink "GoldPlate" 189 ⟨"GoldPlate$Parser", "forget", "()V"⟩ ∈ gp_ws := gp_in3 (i := 97) rfl rfl
theorem iw_3_98 : Cond.instanceMethod ⟨"GoldPlate$Parser", "forget", "()V"⟩ ∈ gp_ws := gp_in3 (i := 98) rfl rfl
theorem iw_3_99 : Cond.selects "GoldPlate$Parser" ⟨"GoldPlate$Parser", "forget", "()V"⟩ ⟨"GoldPlate$Parser", "forget", "()V"⟩ ∈ gp_ws := gp_in3 (i := 99) rfl rfl
theorem iw_3_100 : Cond.code ⟨"GoldPlate$Parser", "forget", "()V"⟩ prog_6_method_3_code 1 none ∈ gp_ws := gp_in3 (i := 100) rfl rfl
theorem iw_3_101 : Cond.methodLink "GoldPlate" 192 ⟨"GoldPlate$Parser", "scan", "()V"⟩ ∈ gp_ws := gp_in3 (i := 101) rfl rfl
theorem iw_3_102 : Cond.instanceMethod ⟨"GoldPlate$Parser", "scan", "()V"⟩ ∈ gp_ws := gp_in3 (i := 102) rfl rfl
theorem iw_3_103 : Cond.selects "GoldPlate$Parser" ⟨"GoldPlate$Parser", "scan", "()V"⟩ ⟨"GoldPlate$Parser", "scan", "()V"⟩ ∈ gp_ws := gp_in3 (i := 103) rfl rfl
theorem iw_3_104 : Cond.code ⟨"GoldPlate$Parser", "scan", "()V"⟩ prog_6_method_4_code 3 none ∈ gp_ws := gp_in3 (i := 104) rfl rfl
theorem iw_3_105 : Cond.methodLink "GoldPlate$Parser" 44 ⟨"GoldPlate$Parser", "runEnd", "(I)I"⟩ ∈ gp_ws := gp_in3 (i := 105) rfl rfl
theorem iw_3_107 : Cond.instanceMethod ⟨"GoldPlate$Parser", "runEnd", "(I)I"⟩ ∈ gp_ws := gp_in3 (i := 107) rfl rfl
theorem iw_3_108 : Cond.code ⟨"GoldPlate$Parser", "runEnd", "(I)I"⟩ prog_6_method_7_code 5 (some .int) ∈ gp_ws := gp_in3 (i := 108) rfl rfl
theorem iw_3_109 : Cond.methodLink "GoldPlate$Parser" 56 ⟨"GoldPlate$Parser", "isLetter", "(I)Z"⟩ ∈ gp_ws := gp_in3 (i := 109) rfl rfl
theorem iw_3_110 : Cond.static ⟨"GoldPlate$Parser", "isLetter", "(I)Z"⟩ ∈ gp_ws := gp_in3 (i := 110) rfl rfl
theorem iw_3_111 : Cond.code ⟨"GoldPlate$Parser", "isLetter", "(I)Z"⟩ prog_6_method_8_code 1 (some .boolean) ∈ gp_ws := gp_in3 (i := 111) rfl rfl
theorem iw_3_112 : Cond.methodLink "GoldPlate$Parser" 64 ⟨"GoldPlate$Parser", "isDigit", "(I)Z"⟩ ∈ gp_ws := gp_in3 (i := 112) rfl rfl
theorem iw_3_113 : Cond.static ⟨"GoldPlate$Parser", "isDigit", "(I)Z"⟩ ∈ gp_ws := gp_in3 (i := 113) rfl rfl
theorem iw_3_114 : Cond.code ⟨"GoldPlate$Parser", "isDigit", "(I)Z"⟩ prog_6_method_9_code 1 (some .boolean) ∈ gp_ws := gp_in3 (i := 114) rfl rfl
theorem iw_3_115 : Cond.methodLink "GoldPlate$Parser" 48 ⟨"GoldPlate$Parser", "scanRun", "(II)V"⟩ ∈ gp_ws := gp_in3 (i := 115) rfl rfl
theorem iw_3_117 : Cond.instanceMethod ⟨"GoldPlate$Parser", "scanRun", "(II)V"⟩ ∈ gp_ws := gp_in3 (i := 117) rfl rfl
theorem iw_3_118 : Cond.code ⟨"GoldPlate$Parser", "scanRun", "(II)V"⟩ prog_6_method_5_code 4 none ∈ gp_ws := gp_in3 (i := 118) rfl rfl
theorem iw_3_119 : Cond.methodLink "GoldPlate$Parser" 60 ⟨"GoldPlate$Parser", "keyword", "(II)I"⟩ ∈ gp_ws := gp_in3 (i := 119) rfl rfl
theorem iw_3_121 : Cond.instanceMethod ⟨"GoldPlate$Parser", "keyword", "(II)I"⟩ ∈ gp_ws := gp_in3 (i := 121) rfl rfl
theorem iw_3_122 : Cond.code ⟨"GoldPlate$Parser", "keyword", "(II)I"⟩ prog_6_method_11_code 5 (some .int) ∈ gp_ws := gp_in3 (i := 122) rfl rfl
theorem iw_3_124 : Cond.methodLink "GoldPlate$Parser" 79 ⟨"GoldPlate$Parser", "indexIn", "(Ljava/lang/String;II)I"⟩ ∈ gp_ws := gp_in3 (i := 124) rfl rfl
theorem iw_3_126 : Cond.instanceMethod ⟨"GoldPlate$Parser", "indexIn", "(Ljava/lang/String;II)I"⟩ ∈ gp_ws := gp_in3 (i := 126) rfl rfl
theorem iw_3_127 : Cond.code ⟨"GoldPlate$Parser", "indexIn", "(Ljava/lang/String;II)I"⟩ prog_6_method_12_code 7 (some .int) ∈ gp_ws := gp_in3 (i := 127) rfl rfl
theorem iw_3_128 : Cond.methodLink "GoldPlate$Parser" 85 ⟨"java/lang/String", "length", "()I"⟩ ∈ gp_ws := gp_in3 (i := 128) rfl rfl
theorem iw_3_129 : Cond.instanceMethod ⟨"java/lang/String", "length", "()I"⟩ ∈ gp_ws := gp_in3 (i := 129) rfl rfl
theorem iw_3_130 : Cond.selects "java/lang/String" ⟨"java/lang/String", "length", "()I"⟩ ⟨"java/lang/String", "length", "()I"⟩ ∈ gp_ws := gp_in3 (i := 130) rfl rfl
theorem iw_3_131 : Cond.code ⟨"java/lang/String", "length", "()I"⟩ prog_18_method_54_code 1 (some .int) ∈ gp_ws := gp_in3 (i := 131) rfl rfl
theorem iw_3_132 : Cond.methodLink "java/lang/String" 335 ⟨"java/lang/String", "coder", "()B"⟩ ∈ gp_ws := gp_in3 (i := 132) rfl rfl
theorem iw_3_133 : Cond.instanceMethod ⟨"java/lang/String", "coder", "()B"⟩ ∈ gp_ws := gp_in3 (i := 133) rfl rfl
theorem iw_3_134 : Cond.selects "java/lang/String" ⟨"java/lang/String", "coder", "()B"⟩ ⟨"java/lang/String", "coder", "()B"⟩ ∈ gp_ws := gp_in3 (i := 134) rfl rfl
theorem iw_3_135 : Cond.code ⟨"java/lang/String", "coder", "()B"⟩ prog_18_method_152_code 1 (some .byte) ∈ gp_ws := gp_in3 (i := 135) rfl rfl
theorem iw_3_136 : Cond.fieldLink "java/lang/String" 38 "java/lang/String" "COMPACT_STRINGS" "Z" ∈ gp_ws := gp_in3 (i := 136) rfl rfl
theorem iw_3_138 : Cond.methodLink "GoldPlate$Parser" 89 ⟨"java/lang/String", "charAt", "(I)C"⟩ ∈ gp_ws := gp_in3 (i := 138) rfl rfl
theorem iw_3_139 : Cond.instanceMethod ⟨"java/lang/String", "charAt", "(I)C"⟩ ∈ gp_ws := gp_in3 (i := 139) rfl rfl
theorem iw_3_140 : Cond.selects "java/lang/String" ⟨"java/lang/String", "charAt", "(I)C"⟩ ⟨"java/lang/String", "charAt", "(I)C"⟩ ∈ gp_ws := gp_in3 (i := 140) rfl rfl
theorem iw_3_141 : Cond.code ⟨"java/lang/String", "charAt", "(I)C"⟩ prog_18_method_56_code 2 (some .char) ∈ gp_ws := gp_in3 (i := 141) rfl rfl
theorem iw_3_142 : Cond.methodLink "java/lang/String" 492 ⟨"java/lang/String", "isLatin1", "()Z"⟩ ∈ gp_ws := gp_in3 (i := 142) rfl rfl
theorem iw_3_143 : Cond.instanceMethod ⟨"java/lang/String", "isLatin1", "()Z"⟩ ∈ gp_ws := gp_in3 (i := 143) rfl rfl
theorem iw_3_144 : Cond.selects "java/lang/String" ⟨"java/lang/String", "isLatin1", "()Z"⟩ ⟨"java/lang/String", "isLatin1", "()Z"⟩ ∈ gp_ws := gp_in3 (i := 144) rfl rfl
theorem iw_3_145 : Cond.code ⟨"java/lang/String", "isLatin1", "()Z"⟩ prog_18_method_154_code 1 (some .boolean) ∈ gp_ws := gp_in3 (i := 145) rfl rfl
theorem iw_3_146 : Cond.methodLink "java/lang/String" 495 ⟨"java/lang/StringLatin1", "charAt", "([BI)C"⟩ ∈ gp_ws := gp_in3 (i := 146) rfl rfl
theorem iw_3_147 : Cond.static ⟨"java/lang/StringLatin1", "charAt", "([BI)C"⟩ ∈ gp_ws := gp_in3 (i := 147) rfl rfl
theorem iw_3_148 : Cond.code ⟨"java/lang/StringLatin1", "charAt", "([BI)C"⟩ prog_19_method_2_code 2 (some .char) ∈ gp_ws := gp_in3 (i := 148) rfl rfl
theorem iw_3_149 : Cond.methodLink "java/lang/StringLatin1" 9 ⟨"java/lang/String", "checkIndex", "(II)V"⟩ ∈ gp_ws := gp_in3 (i := 149) rfl rfl
theorem iw_3_150 : Cond.static ⟨"java/lang/String", "checkIndex", "(II)V"⟩ ∈ gp_ws := gp_in3 (i := 150) rfl rfl
theorem iw_3_151 : Cond.code ⟨"java/lang/String", "checkIndex", "(II)V"⟩ prog_18_method_155_code 2 none ∈ gp_ws := gp_in3 (i := 151) rfl rfl
theorem iw_3_152 : Cond.fieldLink "java/lang/String" 1053 "jdk/internal/util/Preconditions" "SIOOBE_FORMATTER" "Ljava/util/function/BiFunction;" ∈ gp_ws := gp_in3 (i := 152) rfl rfl
theorem iw_3_154 : Cond.methodLink "java/lang/String" 1059 ⟨"jdk/internal/util/Preconditions", "checkIndex", "(IILjava/util/function/BiFunction;)I"⟩ ∈ gp_ws := gp_in3 (i := 154) rfl rfl
theorem iw_3_155 : Cond.static ⟨"jdk/internal/util/Preconditions", "checkIndex", "(IILjava/util/function/BiFunction;)I"⟩ ∈ gp_ws := gp_in3 (i := 155) rfl rfl
theorem iw_3_156 : Cond.code ⟨"jdk/internal/util/Preconditions", "checkIndex", "(IILjava/util/function/BiFunction;)I"⟩ prog_21_method_11_code 3 (some .int) ∈ gp_ws := gp_in3 (i := 156) rfl rfl
theorem iw_3_176 : Cond.methodLink "GoldPlate$Parser" 93 ⟨"GoldPlate$Parser", "standsAt", "(Ljava/lang/String;III)Z"⟩ ∈ gp_ws := gp_in3 (i := 176) rfl rfl
theorem iw_3_178 : Cond.instanceMethod ⟨"GoldPlate$Parser", "standsAt", "(Ljava/lang/String;III)Z"⟩ ∈ gp_ws := gp_in3 (i := 178) rfl rfl
theorem iw_3_179 : Cond.code ⟨"GoldPlate$Parser", "standsAt", "(Ljava/lang/String;III)Z"⟩ prog_6_method_13_code 6 (some .boolean) ∈ gp_ws := gp_in3 (i := 179) rfl rfl
theorem iw_3_181 : Cond.methodLink "GoldPlate$Parser" 52 ⟨"GoldPlate$Parser", "addToken", "(III)V"⟩ ∈ gp_ws := gp_in3 (i := 181) rfl rfl
theorem iw_3_183 : Cond.instanceMethod ⟨"GoldPlate$Parser", "addToken", "(III)V"⟩ ∈ gp_ws := gp_in3 (i := 183) rfl rfl
theorem iw_3_184 : Cond.code ⟨"GoldPlate$Parser", "addToken", "(III)V"⟩ prog_6_method_6_code 4 none ∈ gp_ws := gp_in3 (i := 184) rfl rfl
theorem iw_3_185 : Cond.methodLink "GoldPlate$Parser" 67 ⟨"GoldPlate$Parser", "numberOf", "(II)I"⟩ ∈ gp_ws := gp_in3 (i := 185) rfl rfl
theorem iw_3_187 : Cond.instanceMethod ⟨"GoldPlate$Parser", "numberOf", "(II)I"⟩ ∈ gp_ws := gp_in3 (i := 187) rfl rfl
theorem iw_3_188 : Cond.code ⟨"GoldPlate$Parser", "numberOf", "(II)I"⟩ prog_6_method_10_code 5 (some .int) ∈ gp_ws := gp_in3 (i := 188) rfl rfl
theorem iw_3_190 : Cond.methodLink "GoldPlate$Parser" 72 ⟨"java/lang/String", "indexOf", "(I)I"⟩ ∈ gp_ws := gp_in3 (i := 190) rfl rfl
theorem iw_3_191 : Cond.instanceMethod ⟨"java/lang/String", "indexOf", "(I)I"⟩ ∈ gp_ws := gp_in3 (i := 191) rfl rfl
theorem iw_3_192 : Cond.selects "java/lang/String" ⟨"java/lang/String", "indexOf", "(I)I"⟩ ⟨"java/lang/String", "indexOf", "(I)I"⟩ ∈ gp_ws := gp_in3 (i := 192) rfl rfl
theorem iw_3_193 : Cond.code ⟨"java/lang/String", "indexOf", "(I)I"⟩ prog_18_method_79_code 2 (some .int) ∈ gp_ws := gp_in3 (i := 193) rfl rfl
theorem iw_3_194 : Cond.methodLink "java/lang/String" 633 ⟨"java/lang/String", "indexOf", "(II)I"⟩ ∈ gp_ws := gp_in3 (i := 194) rfl rfl
theorem iw_3_195 : Cond.instanceMethod ⟨"java/lang/String", "indexOf", "(II)I"⟩ ∈ gp_ws := gp_in3 (i := 195) rfl rfl
theorem iw_3_196 : Cond.selects "java/lang/String" ⟨"java/lang/String", "indexOf", "(II)I"⟩ ⟨"java/lang/String", "indexOf", "(II)I"⟩ ∈ gp_ws := gp_in3 (i := 196) rfl rfl
theorem iw_3_197 : Cond.code ⟨"java/lang/String", "indexOf", "(II)I"⟩ prog_18_method_80_code 3 (some .int) ∈ gp_ws := gp_in3 (i := 197) rfl rfl
theorem iw_3_198 : Cond.methodLink "java/lang/String" 505 ⟨"java/lang/String", "length", "()I"⟩ ∈ gp_ws := gp_in3 (i := 198) rfl rfl
theorem iw_3_199 : Cond.methodLink "java/lang/String" 637 ⟨"java/lang/StringLatin1", "indexOf", "([BIII)I"⟩ ∈ gp_ws := gp_in3 (i := 199) rfl rfl
theorem iw_3_200 : Cond.static ⟨"java/lang/StringLatin1", "indexOf", "([BIII)I"⟩ ∈ gp_ws := gp_in3 (i := 200) rfl rfl
theorem iw_3_201 : Cond.code ⟨"java/lang/StringLatin1", "indexOf", "([BIII)I"⟩ prog_19_method_22_code 4 (some .int) ∈ gp_ws := gp_in3 (i := 201) rfl rfl
theorem iw_3_202 : Cond.methodLink "java/lang/StringLatin1" 88 ⟨"java/lang/StringLatin1", "canEncode", "(I)Z"⟩ ∈ gp_ws := gp_in3 (i := 202) rfl rfl
theorem iw_3_203 : Cond.static ⟨"java/lang/StringLatin1", "canEncode", "(I)Z"⟩ ∈ gp_ws := gp_in3 (i := 203) rfl rfl
theorem iw_3_204 : Cond.code ⟨"java/lang/StringLatin1", "canEncode", "(I)Z"⟩ prog_19_method_4_code 1 (some .boolean) ∈ gp_ws := gp_in3 (i := 204) rfl rfl
theorem iw_3_205 : Cond.methodLink "java/lang/StringLatin1" 92 ⟨"java/lang/Math", "max", "(II)I"⟩ ∈ gp_ws := gp_in3 (i := 205) rfl rfl
theorem iw_3_206 : Cond.methodLink "java/lang/StringLatin1" 38 ⟨"java/lang/Math", "min", "(II)I"⟩ ∈ gp_ws := gp_in3 (i := 206) rfl rfl
theorem iw_3_207 : Cond.static ⟨"java/lang/Math", "min", "(II)I"⟩ ∈ gp_ws := gp_in3 (i := 207) rfl rfl
theorem iw_3_208 : Cond.code ⟨"java/lang/Math", "min", "(II)I"⟩ prog_17_method_69_code 2 (some .int) ∈ gp_ws := gp_in3 (i := 208) rfl rfl
theorem iw_3_209 : Cond.methodLink "java/lang/StringLatin1" 95 ⟨"java/lang/StringLatin1", "indexOfChar", "([BIII)I"⟩ ∈ gp_ws := gp_in3 (i := 209) rfl rfl
theorem iw_3_210 : Cond.static ⟨"java/lang/StringLatin1", "indexOfChar", "([BIII)I"⟩ ∈ gp_ws := gp_in3 (i := 210) rfl rfl
theorem iw_3_211 : Cond.code ⟨"java/lang/StringLatin1", "indexOfChar", "([BIII)I"⟩ prog_19_method_23_code 6 (some .int) ∈ gp_ws := gp_in3 (i := 211) rfl rfl
theorem iw_3_226 : Cond.code ⟨"java/lang/String", "checkBoundsBeginEnd", "(III)V"⟩ prog_18_method_158_code 3 none ∈ gp_ws := gp_in3 (i := 226) rfl rfl
theorem iw_3_227 : Cond.methodLink "java/lang/String" 1062 ⟨"jdk/internal/util/Preconditions", "checkFromToIndex", "(IIILjava/util/function/BiFunction;)I"⟩ ∈ gp_ws := gp_in3 (i := 227) rfl rfl
theorem iw_3_228 : Cond.static ⟨"jdk/internal/util/Preconditions", "checkFromToIndex", "(IIILjava/util/function/BiFunction;)I"⟩ ∈ gp_ws := gp_in3 (i := 228) rfl rfl
theorem iw_3_229 : Cond.code ⟨"jdk/internal/util/Preconditions", "checkFromToIndex", "(IIILjava/util/function/BiFunction;)I"⟩ prog_21_method_12_code 4 (some .int) ∈ gp_ws := gp_in3 (i := 229) rfl rfl
theorem iw_4_7 : Cond.methodLink "GoldPlate" 195 ⟨"GoldPlate$Parser", "readsText", "()Z"⟩ ∈ gp_ws := gp_in4 (i := 7) rfl rfl
theorem iw_4_8 : Cond.instanceMethod ⟨"GoldPlate$Parser", "readsText", "()Z"⟩ ∈ gp_ws := gp_in4 (i := 8) rfl rfl
theorem iw_4_9 : Cond.selects "GoldPlate$Parser" ⟨"GoldPlate$Parser", "readsText", "()Z"⟩ ⟨"GoldPlate$Parser", "readsText", "()Z"⟩ ∈ gp_ws := gp_in4 (i := 9) rfl rfl
theorem iw_4_10 : Cond.code ⟨"GoldPlate$Parser", "readsText", "()Z"⟩ prog_6_method_14_code 2 (some .boolean) ∈ gp_ws := gp_in4 (i := 10) rfl rfl
theorem iw_4_11 : Cond.methodLink "GoldPlate$Parser" 97 ⟨"GoldPlate$Parser", "forget", "()V"⟩ ∈ gp_ws := gp_in4 (i := 11) rfl rfl
theorem iw_4_12 : Cond.methodLink "GoldPlate$Parser" 103 ⟨"GoldPlate$Mind", "clear", "()V"⟩ ∈ gp_ws := gp_in4 (i := 12) rfl rfl
theorem iw_4_13 : Cond.instanceMethod ⟨"GoldPlate$Mind", "clear", "()V"⟩ ∈ gp_ws := gp_in4 (i := 13) rfl rfl
theorem iw_4_14 : Cond.selects "GoldPlate$Mind" ⟨"GoldPlate$Mind", "clear", "()V"⟩ ⟨"GoldPlate$Mind", "clear", "()V"⟩ ∈ gp_ws := gp_in4 (i := 14) rfl rfl
theorem iw_4_15 : Cond.code ⟨"GoldPlate$Mind", "clear", "()V"⟩ prog_5_method_2_code 1 none ∈ gp_ws := gp_in4 (i := 15) rfl rfl
theorem iw_4_16 : Cond.methodLink "GoldPlate$Parser" 106 ⟨"GoldPlate$Parser", "kind", "()I"⟩ ∈ gp_ws := gp_in4 (i := 16) rfl rfl
theorem iw_4_18 : Cond.instanceMethod ⟨"GoldPlate$Parser", "kind", "()I"⟩ ∈ gp_ws := gp_in4 (i := 18) rfl rfl
theorem iw_4_19 : Cond.code ⟨"GoldPlate$Parser", "kind", "()I"⟩ prog_6_method_24_code 1 (some .int) ∈ gp_ws := gp_in4 (i := 19) rfl rfl
theorem iw_4_20 : Cond.methodLink "GoldPlate$Parser" 109 ⟨"GoldPlate$Parser", "readLine", "()V"⟩ ∈ gp_ws := gp_in4 (i := 20) rfl rfl
theorem iw_4_22 : Cond.instanceMethod ⟨"GoldPlate$Parser", "readLine", "()V"⟩ ∈ gp_ws := gp_in4 (i := 22) rfl rfl
theorem iw_4_23 : Cond.code ⟨"GoldPlate$Parser", "readLine", "()V"⟩ prog_6_method_15_code 4 none ∈ gp_ws := gp_in4 (i := 23) rfl rfl
theorem iw_4_24 : Cond.methodLink "GoldPlate$Parser" 112 ⟨"GoldPlate$Parser", "fail", "(I)V"⟩ ∈ gp_ws := gp_in4 (i := 24) rfl rfl
theorem iw_4_26 : Cond.instanceMethod ⟨"GoldPlate$Parser", "fail", "(I)V"⟩ ∈ gp_ws := gp_in4 (i := 26) rfl rfl
theorem iw_4_27 : Cond.code ⟨"GoldPlate$Parser", "fail", "(I)V"⟩ prog_6_method_25_code 2 none ∈ gp_ws := gp_in4 (i := 27) rfl rfl
theorem iw_4_28 : Cond.methodLink "GoldPlate$Parser" 135 ⟨"GoldPlate$Parser", "expression", "()V"⟩ ∈ gp_ws := gp_in4 (i := 28) rfl rfl
theorem iw_4_30 : Cond.instanceMethod ⟨"GoldPlate$Parser", "expression", "()V"⟩ ∈ gp_ws := gp_in4 (i := 30) rfl rfl
theorem iw_4_31 : Cond.code ⟨"GoldPlate$Parser", "expression", "()V"⟩ prog_6_method_20_code 4 none ∈ gp_ws := gp_in4 (i := 31) rfl rfl
theorem iw_4_32 : Cond.methodLink "GoldPlate$Parser" 179 ⟨"GoldPlate$Parser", "unit", "()V"⟩ ∈ gp_ws := gp_in4 (i := 32) rfl rfl
theorem iw_4_34 : Cond.instanceMethod ⟨"GoldPlate$Parser", "unit", "()V"⟩ ∈ gp_ws := gp_in4 (i := 34) rfl rfl
theorem iw_4_35 : Cond.code ⟨"GoldPlate$Parser", "unit", "()V"⟩ prog_6_method_21_code 2 none ∈ gp_ws := gp_in4 (i := 35) rfl rfl
theorem iw_4_36 : Cond.methodLink "GoldPlate$Parser" 173 ⟨"GoldPlate$Parser", "emit", "(II)V"⟩ ∈ gp_ws := gp_in4 (i := 36) rfl rfl
theorem iw_4_38 : Cond.instanceMethod ⟨"GoldPlate$Parser", "emit", "(II)V"⟩ ∈ gp_ws := gp_in4 (i := 38) rfl rfl
theorem iw_4_39 : Cond.code ⟨"GoldPlate$Parser", "emit", "(II)V"⟩ prog_6_method_26_code 3 none ∈ gp_ws := gp_in4 (i := 39) rfl rfl
theorem iw_4_40 : Cond.methodLink "GoldPlate$Parser" 182 ⟨"GoldPlate$Parser", "part", "()V"⟩ ∈ gp_ws := gp_in4 (i := 40) rfl rfl
theorem iw_4_42 : Cond.instanceMethod ⟨"GoldPlate$Parser", "part", "()V"⟩ ∈ gp_ws := gp_in4 (i := 42) rfl rfl
theorem iw_4_43 : Cond.code ⟨"GoldPlate$Parser", "part", "()V"⟩ prog_6_method_22_code 1 none ∈ gp_ws := gp_in4 (i := 43) rfl rfl
theorem iw_4_44 : Cond.methodLink "GoldPlate$Parser" 141 ⟨"GoldPlate$Parser", "condition", "(I)V"⟩ ∈ gp_ws := gp_in4 (i := 44) rfl rfl
theorem iw_4_46 : Cond.instanceMethod ⟨"GoldPlate$Parser", "condition", "(I)V"⟩ ∈ gp_ws := gp_in4 (i := 46) rfl rfl
theorem iw_4_47 : Cond.code ⟨"GoldPlate$Parser", "condition", "(I)V"⟩ prog_6_method_17_code 4 none ∈ gp_ws := gp_in4 (i := 47) rfl rfl
theorem iw_4_48 : Cond.methodLink "GoldPlate$Parser" 168 ⟨"GoldPlate$Parser", "check", "(I)V"⟩ ∈ gp_ws := gp_in4 (i := 48) rfl rfl
theorem iw_4_50 : Cond.instanceMethod ⟨"GoldPlate$Parser", "check", "(I)V"⟩ ∈ gp_ws := gp_in4 (i := 50) rfl rfl
theorem iw_4_51 : Cond.code ⟨"GoldPlate$Parser", "check", "(I)V"⟩ prog_6_method_18_code 5 none ∈ gp_ws := gp_in4 (i := 51) rfl rfl
theorem iw_4_52 : Cond.methodLink "GoldPlate$Parser" 156 ⟨"GoldPlate$Parser", "expect", "(I)V"⟩ ∈ gp_ws := gp_in4 (i := 52) rfl rfl
theorem iw_4_54 : Cond.instanceMethod ⟨"GoldPlate$Parser", "expect", "(I)V"⟩ ∈ gp_ws := gp_in4 (i := 54) rfl rfl
theorem iw_4_55 : Cond.code ⟨"GoldPlate$Parser", "expect", "(I)V"⟩ prog_6_method_23_code 2 none ∈ gp_ws := gp_in4 (i := 55) rfl rfl
theorem iw_4_56 : Cond.methodLink "GoldPlate$Parser" 176 ⟨"GoldPlate$Parser", "expectComparison", "(I)V"⟩ ∈ gp_ws := gp_in4 (i := 56) rfl rfl
theorem iw_4_58 : Cond.instanceMethod ⟨"GoldPlate$Parser", "expectComparison", "(I)V"⟩ ∈ gp_ws := gp_in4 (i := 58) rfl rfl
theorem iw_4_59 : Cond.code ⟨"GoldPlate$Parser", "expectComparison", "(I)V"⟩ prog_6_method_19_code 2 none ∈ gp_ws := gp_in4 (i := 59) rfl rfl
theorem iw_4_60 : Cond.methodLink "GoldPlate$Parser" 153 ⟨"GoldPlate$Parser", "readNumber", "(I)V"⟩ ∈ gp_ws := gp_in4 (i := 60) rfl rfl
theorem iw_4_62 : Cond.instanceMethod ⟨"GoldPlate$Parser", "readNumber", "(I)V"⟩ ∈ gp_ws := gp_in4 (i := 62) rfl rfl
theorem iw_4_63 : Cond.code ⟨"GoldPlate$Parser", "readNumber", "(I)V"⟩ prog_6_method_16_code 4 none ∈ gp_ws := gp_in4 (i := 63) rfl rfl
theorem iw_4_64 : Cond.methodLink "GoldPlateLaw" 55 ⟨"GoldPlate", "fault", "(I)I"⟩ ∈ gp_ws := gp_in4 (i := 64) rfl rfl
theorem iw_4_65 : Cond.instanceMethod ⟨"GoldPlate", "fault", "(I)I"⟩ ∈ gp_ws := gp_in4 (i := 65) rfl rfl
theorem iw_4_66 : Cond.selects "GoldPlate" ⟨"GoldPlate", "fault", "(I)I"⟩ ⟨"GoldPlate", "fault", "(I)I"⟩ ∈ gp_ws := gp_in4 (i := 66) rfl rfl
theorem iw_4_67 : Cond.code ⟨"GoldPlate", "fault", "(I)I"⟩ prog_1_method_17_code 2 (some .int) ∈ gp_ws := gp_in4 (i := 67) rfl rfl
theorem iw_4_68 : Cond.methodLink "GoldPlateLaw" 59 ⟨"GoldPlate", "readings", "(II)I"⟩ ∈ gp_ws := gp_in4 (i := 68) rfl rfl
theorem iw_4_69 : Cond.instanceMethod ⟨"GoldPlate", "readings", "(II)I"⟩ ∈ gp_ws := gp_in4 (i := 69) rfl rfl
theorem iw_4_70 : Cond.selects "GoldPlate" ⟨"GoldPlate", "readings", "(II)I"⟩ ⟨"GoldPlate", "readings", "(II)I"⟩ ∈ gp_ws := gp_in4 (i := 70) rfl rfl
theorem iw_4_71 : Cond.code ⟨"GoldPlate", "readings", "(II)I"⟩ prog_1_method_18_code 4 (some .int) ∈ gp_ws := gp_in4 (i := 71) rfl rfl
theorem iw_4_72 : Cond.methodLink "GoldPlate" 212 ⟨"GoldPlate$Search", "setUp", "(JILGoldPlate$Mind;)V"⟩ ∈ gp_ws := gp_in4 (i := 72) rfl rfl
theorem iw_4_73 : Cond.instanceMethod ⟨"GoldPlate$Search", "setUp", "(JILGoldPlate$Mind;)V"⟩ ∈ gp_ws := gp_in4 (i := 73) rfl rfl
theorem iw_4_74 : Cond.selects "GoldPlate$Search" ⟨"GoldPlate$Search", "setUp", "(JILGoldPlate$Mind;)V"⟩ ⟨"GoldPlate$Search", "setUp", "(JILGoldPlate$Mind;)V"⟩ ∈ gp_ws := gp_in4 (i := 74) rfl rfl
theorem iw_4_75 : Cond.code ⟨"GoldPlate$Search", "setUp", "(JILGoldPlate$Mind;)V"⟩ prog_8_method_2_code 7 none ∈ gp_ws := gp_in4 (i := 75) rfl rfl
theorem iw_4_76 : Cond.methodLink "GoldPlate$Search" 38 ⟨"java/lang/Math", "min", "(II)I"⟩ ∈ gp_ws := gp_in4 (i := 76) rfl rfl
theorem iw_4_78 : Cond.methodLink "GoldPlate$Search" 57 ⟨"GoldPlate$Search", "takingsOf", "(LGoldPlate$Mark;LGoldPlate$Mind;I)I"⟩ ∈ gp_ws := gp_in4 (i := 78) rfl rfl
theorem iw_4_80 : Cond.instanceMethod ⟨"GoldPlate$Search", "takingsOf", "(LGoldPlate$Mark;LGoldPlate$Mind;I)I"⟩ ∈ gp_ws := gp_in4 (i := 80) rfl rfl
theorem iw_4_81 : Cond.code ⟨"GoldPlate$Search", "takingsOf", "(LGoldPlate$Mark;LGoldPlate$Mind;I)I"⟩ prog_8_method_3_code 5 (some .int) ∈ gp_ws := gp_in4 (i := 81) rfl rfl
theorem iw_4_82 : Cond.methodLink "GoldPlate$Search" 68 ⟨"GoldPlate$Plate", "canSee", "(LGoldPlate$Mind;LGoldPlate$Mark;)Z"⟩ ∈ gp_ws := gp_in4 (i := 82) rfl rfl
theorem iw_4_83 : Cond.instanceMethod ⟨"GoldPlate$Plate", "canSee", "(LGoldPlate$Mind;LGoldPlate$Mark;)Z"⟩ ∈ gp_ws := gp_in4 (i := 83) rfl rfl
theorem iw_4_84 : Cond.selects "GoldPlate$Plate" ⟨"GoldPlate$Plate", "canSee", "(LGoldPlate$Mind;LGoldPlate$Mark;)Z"⟩ ⟨"GoldPlate$Plate", "canSee", "(LGoldPlate$Mind;LGoldPlate$Mark;)Z"⟩ ∈ gp_ws := gp_in4 (i := 84) rfl rfl
theorem iw_4_85 : Cond.code ⟨"GoldPlate$Plate", "canSee", "(LGoldPlate$Mind;LGoldPlate$Mark;)Z"⟩ prog_7_method_8_code 3 (some .boolean) ∈ gp_ws := gp_in4 (i := 85) rfl rfl
theorem iw_4_86 : Cond.methodLink "GoldPlate$Search" 61 ⟨"GoldPlate$Search", "priceAll", "(ILGoldPlate$Mind;)V"⟩ ∈ gp_ws := gp_in4 (i := 86) rfl rfl
theorem iw_4_88 : Cond.instanceMethod ⟨"GoldPlate$Search", "priceAll", "(ILGoldPlate$Mind;)V"⟩ ∈ gp_ws := gp_in4 (i := 88) rfl rfl
theorem iw_4_89 : Cond.code ⟨"GoldPlate$Search", "priceAll", "(ILGoldPlate$Mind;)V"⟩ prog_8_method_4_code 6 none ∈ gp_ws := gp_in4 (i := 89) rfl rfl
theorem iw_4_90 : Cond.methodLink "GoldPlate$Search" 89 ⟨"GoldPlate$Sums", "clear", "()V"⟩ ∈ gp_ws := gp_in4 (i := 90) rfl rfl
theorem iw_4_91 : Cond.instanceMethod ⟨"GoldPlate$Sums", "clear", "()V"⟩ ∈ gp_ws := gp_in4 (i := 91) rfl rfl
theorem iw_4_92 : Cond.selects "GoldPlate$Sums" ⟨"GoldPlate$Sums", "clear", "()V"⟩ ⟨"GoldPlate$Sums", "clear", "()V"⟩ ∈ gp_ws := gp_in4 (i := 92) rfl rfl
theorem iw_4_93 : Cond.code ⟨"GoldPlate$Sums", "clear", "()V"⟩ prog_10_method_2_code 2 none ∈ gp_ws := gp_in4 (i := 93) rfl rfl
theorem iw_4_94 : Cond.methodLink "GoldPlate$Search" 103 ⟨"GoldPlate$Plate", "leftOf", "(LGoldPlate$Mark;)I"⟩ ∈ gp_ws := gp_in4 (i := 94) rfl rfl
theorem iw_4_95 : Cond.methodLink "GoldPlate$Search" 107 ⟨"java/lang/Math", "max", "(II)I"⟩ ∈ gp_ws := gp_in4 (i := 95) rfl rfl
theorem iw_4_96 : Cond.methodLink "GoldPlate$Search" 110 ⟨"GoldPlate$Plate", "wearOf", "(LGoldPlate$Mark;)I"⟩ ∈ gp_ws := gp_in4 (i := 96) rfl rfl
theorem iw_4_97 : Cond.methodLink "GoldPlate$Search" 113 ⟨"GoldPlate$Mind", "priceBy", "(LGoldPlate$Sums;)I"⟩ ∈ gp_ws := gp_in4 (i := 97) rfl rfl
theorem iw_4_98 : Cond.instanceMethod ⟨"GoldPlate$Mind", "priceBy", "(LGoldPlate$Sums;)I"⟩ ∈ gp_ws := gp_in4 (i := 98) rfl rfl
theorem iw_4_99 : Cond.selects "GoldPlate$Mind" ⟨"GoldPlate$Mind", "priceBy", "(LGoldPlate$Sums;)I"⟩ ⟨"GoldPlate$Mind", "priceBy", "(LGoldPlate$Sums;)I"⟩ ∈ gp_ws := gp_in4 (i := 99) rfl rfl
theorem iw_4_100 : Cond.code ⟨"GoldPlate$Mind", "priceBy", "(LGoldPlate$Sums;)I"⟩ prog_5_method_3_code 5 (some .int) ∈ gp_ws := gp_in4 (i := 100) rfl rfl
theorem iw_4_101 : Cond.methodLink "GoldPlate$Mind" 56 ⟨"GoldPlate$Sums", "work", "([III)I"⟩ ∈ gp_ws := gp_in4 (i := 101) rfl rfl
theorem iw_4_102 : Cond.instanceMethod ⟨"GoldPlate$Sums", "work", "([III)I"⟩ ∈ gp_ws := gp_in4 (i := 102) rfl rfl
theorem iw_4_103 : Cond.selects "GoldPlate$Sums" ⟨"GoldPlate$Sums", "work", "([III)I"⟩ ⟨"GoldPlate$Sums", "work", "([III)I"⟩ ∈ gp_ws := gp_in4 (i := 103) rfl rfl
theorem iw_4_104 : Cond.code ⟨"GoldPlate$Sums", "work", "([III)I"⟩ prog_10_method_3_code 5 (some .int) ∈ gp_ws := gp_in4 (i := 104) rfl rfl
theorem iw_4_105 : Cond.methodLink "GoldPlate$Sums" 20 ⟨"GoldPlate$Sums", "step", "(II)V"⟩ ∈ gp_ws := gp_in4 (i := 105) rfl rfl
theorem iw_4_107 : Cond.instanceMethod ⟨"GoldPlate$Sums", "step", "(II)V"⟩ ∈ gp_ws := gp_in4 (i := 107) rfl rfl
theorem iw_4_108 : Cond.code ⟨"GoldPlate$Sums", "step", "(II)V"⟩ prog_10_method_4_code 4 none ∈ gp_ws := gp_in4 (i := 108) rfl rfl
theorem iw_4_109 : Cond.methodLink "GoldPlate$Sums" 24 ⟨"GoldPlate$Sums", "join", "(III)I"⟩ ∈ gp_ws := gp_in4 (i := 109) rfl rfl
theorem iw_4_110 : Cond.static ⟨"GoldPlate$Sums", "join", "(III)I"⟩ ∈ gp_ws := gp_in4 (i := 110) rfl rfl
theorem iw_4_111 : Cond.code ⟨"GoldPlate$Sums", "join", "(III)I"⟩ prog_10_method_5_code 3 (some .int) ∈ gp_ws := gp_in4 (i := 111) rfl rfl
theorem iw_4_112 : Cond.methodLink "GoldPlate$Mind" 62 ⟨"java/lang/Math", "min", "(II)I"⟩ ∈ gp_ws := gp_in4 (i := 112) rfl rfl
theorem iw_4_113 : Cond.methodLink "GoldPlate$Mind" 68 ⟨"java/lang/Math", "max", "(II)I"⟩ ∈ gp_ws := gp_in4 (i := 113) rfl rfl
theorem iw_4_114 : Cond.methodLink "GoldPlate$Search" 65 ⟨"GoldPlate$Search", "setFloors", "()V"⟩ ∈ gp_ws := gp_in4 (i := 114) rfl rfl
theorem iw_4_116 : Cond.instanceMethod ⟨"GoldPlate$Search", "setFloors", "()V"⟩ ∈ gp_ws := gp_in4 (i := 116) rfl rfl
theorem iw_4_117 : Cond.code ⟨"GoldPlate$Search", "setFloors", "()V"⟩ prog_8_method_5_code 4 none ∈ gp_ws := gp_in4 (i := 117) rfl rfl
theorem iw_4_118 : Cond.methodLink "GoldPlate" 216 ⟨"GoldPlate$Search", "countUpTo", "(I)I"⟩ ∈ gp_ws := gp_in4 (i := 118) rfl rfl
theorem iw_4_119 : Cond.instanceMethod ⟨"GoldPlate$Search", "countUpTo", "(I)I"⟩ ∈ gp_ws := gp_in4 (i := 119) rfl rfl
theorem iw_4_120 : Cond.selects "GoldPlate$Search" ⟨"GoldPlate$Search", "countUpTo", "(I)I"⟩ ⟨"GoldPlate$Search", "countUpTo", "(I)I"⟩ ∈ gp_ws := gp_in4 (i := 120) rfl rfl
theorem iw_4_121 : Cond.code ⟨"GoldPlate$Search", "countUpTo", "(I)I"⟩ prog_8_method_6_code 2 (some .int) ∈ gp_ws := gp_in4 (i := 121) rfl rfl
theorem iw_4_122 : Cond.methodLink "GoldPlate$Search" 127 ⟨"GoldPlate$Search", "walk", "(IIII)V"⟩ ∈ gp_ws := gp_in4 (i := 122) rfl rfl
theorem iw_4_124 : Cond.instanceMethod ⟨"GoldPlate$Search", "walk", "(IIII)V"⟩ ∈ gp_ws := gp_in4 (i := 124) rfl rfl
theorem iw_4_125 : Cond.code ⟨"GoldPlate$Search", "walk", "(IIII)V"⟩ prog_8_method_8_code 12 none ∈ gp_ws := gp_in4 (i := 125) rfl rfl
theorem iw_4_126 : Cond.methodLink "GoldPlate$Search" 131 ⟨"GoldPlate$Search", "arrive", "(I)V"⟩ ∈ gp_ws := gp_in4 (i := 126) rfl rfl
theorem iw_4_128 : Cond.instanceMethod ⟨"GoldPlate$Search", "arrive", "(I)V"⟩ ∈ gp_ws := gp_in4 (i := 128) rfl rfl
theorem iw_4_129 : Cond.code ⟨"GoldPlate$Search", "arrive", "(I)V"⟩ prog_8_method_9_code 3 none ∈ gp_ws := gp_in4 (i := 129) rfl rfl
theorem iw_4_130 : Cond.methodLink "GoldPlate$Search" 135 ⟨"GoldPlate$Mark", "takenFor", "(I)I"⟩ ∈ gp_ws := gp_in4 (i := 130) rfl rfl
theorem iw_4_131 : Cond.instanceMethod ⟨"GoldPlate$Mark", "takenFor", "(I)I"⟩ ∈ gp_ws := gp_in4 (i := 131) rfl rfl
theorem iw_4_132 : Cond.selects "GoldPlate$Mark" ⟨"GoldPlate$Mark", "takenFor", "(I)I"⟩ ⟨"GoldPlate$Mark", "takenFor", "(I)I"⟩ ∈ gp_ws := gp_in4 (i := 132) rfl rfl
theorem iw_4_133 : Cond.code ⟨"GoldPlate$Mark", "takenFor", "(I)I"⟩ prog_4_method_2_code 2 (some .int) ∈ gp_ws := gp_in4 (i := 133) rfl rfl
theorem iw_4_134 : Cond.methodLink "GoldPlateLaw" 63 ⟨"GoldPlate", "cheapest", "(II)I"⟩ ∈ gp_ws := gp_in4 (i := 134) rfl rfl
theorem iw_4_135 : Cond.instanceMethod ⟨"GoldPlate", "cheapest", "(II)I"⟩ ∈ gp_ws := gp_in4 (i := 135) rfl rfl
theorem iw_4_136 : Cond.selects "GoldPlate" ⟨"GoldPlate", "cheapest", "(II)I"⟩ ⟨"GoldPlate", "cheapest", "(II)I"⟩ ∈ gp_ws := gp_in4 (i := 136) rfl rfl
theorem iw_4_137 : Cond.code ⟨"GoldPlate", "cheapest", "(II)I"⟩ prog_1_method_19_code 5 (some .int) ∈ gp_ws := gp_in4 (i := 137) rfl rfl
theorem iw_4_138 : Cond.methodLink "GoldPlate" 219 ⟨"GoldPlate", "findCheapest", "(JII)V"⟩ ∈ gp_ws := gp_in4 (i := 138) rfl rfl
theorem iw_4_140 : Cond.instanceMethod ⟨"GoldPlate", "findCheapest", "(JII)V"⟩ ∈ gp_ws := gp_in4 (i := 140) rfl rfl
theorem iw_4_141 : Cond.code ⟨"GoldPlate", "findCheapest", "(JII)V"⟩ prog_1_method_20_code 5 none ∈ gp_ws := gp_in4 (i := 141) rfl rfl
theorem iw_4_142 : Cond.methodLink "GoldPlate" 236 ⟨"GoldPlate$Search", "findCheapest", "()V"⟩ ∈ gp_ws := gp_in4 (i := 142) rfl rfl
theorem iw_4_143 : Cond.instanceMethod ⟨"GoldPlate$Search", "findCheapest", "()V"⟩ ∈ gp_ws := gp_in4 (i := 143) rfl rfl
theorem iw_4_144 : Cond.selects "GoldPlate$Search" ⟨"GoldPlate$Search", "findCheapest", "()V"⟩ ⟨"GoldPlate$Search", "findCheapest", "()V"⟩ ∈ gp_ws := gp_in4 (i := 144) rfl rfl
theorem iw_4_145 : Cond.code ⟨"GoldPlate$Search", "findCheapest", "()V"⟩ prog_8_method_7_code 1 none ∈ gp_ws := gp_in4 (i := 145) rfl rfl
theorem iw_4_146 : Cond.methodLink "GoldPlate" 223 ⟨"GoldPlate$Search", "cheapestTaking", "(I)I"⟩ ∈ gp_ws := gp_in4 (i := 146) rfl rfl
theorem iw_4_147 : Cond.instanceMethod ⟨"GoldPlate$Search", "cheapestTaking", "(I)I"⟩ ∈ gp_ws := gp_in4 (i := 147) rfl rfl
theorem iw_4_148 : Cond.selects "GoldPlate$Search" ⟨"GoldPlate$Search", "cheapestTaking", "(I)I"⟩ ⟨"GoldPlate$Search", "cheapestTaking", "(I)I"⟩ ∈ gp_ws := gp_in4 (i := 148) rfl rfl
theorem iw_4_149 : Cond.code ⟨"GoldPlate$Search", "cheapestTaking", "(I)I"⟩ prog_8_method_10_code 2 (some .int) ∈ gp_ws := gp_in4 (i := 149) rfl rfl
theorem iw_4_150 : Cond.methodLink "GoldPlate" 229 ⟨"GoldPlate$Search", "partingPlace", "()I"⟩ ∈ gp_ws := gp_in4 (i := 150) rfl rfl
theorem iw_4_151 : Cond.instanceMethod ⟨"GoldPlate$Search", "partingPlace", "()I"⟩ ∈ gp_ws := gp_in4 (i := 151) rfl rfl
theorem iw_4_152 : Cond.selects "GoldPlate$Search" ⟨"GoldPlate$Search", "partingPlace", "()I"⟩ ⟨"GoldPlate$Search", "partingPlace", "()I"⟩ ∈ gp_ws := gp_in4 (i := 152) rfl rfl
theorem iw_4_153 : Cond.code ⟨"GoldPlate$Search", "partingPlace", "()I"⟩ prog_8_method_12_code 2 (some .int) ∈ gp_ws := gp_in4 (i := 153) rfl rfl
theorem iw_4_154 : Cond.methodLink "GoldPlate" 233 ⟨"GoldPlate$Search", "fallsFrom", "(I)I"⟩ ∈ gp_ws := gp_in4 (i := 154) rfl rfl
theorem iw_4_155 : Cond.instanceMethod ⟨"GoldPlate$Search", "fallsFrom", "(I)I"⟩ ∈ gp_ws := gp_in4 (i := 155) rfl rfl
theorem iw_4_156 : Cond.selects "GoldPlate$Search" ⟨"GoldPlate$Search", "fallsFrom", "(I)I"⟩ ⟨"GoldPlate$Search", "fallsFrom", "(I)I"⟩ ∈ gp_ws := gp_in4 (i := 156) rfl rfl
theorem iw_4_157 : Cond.code ⟨"GoldPlate$Search", "fallsFrom", "(I)I"⟩ prog_8_method_13_code 4 (some .int) ∈ gp_ws := gp_in4 (i := 157) rfl rfl
theorem iw_4_158 : Cond.methodLink "GoldPlate$Search" 142 ⟨"GoldPlate$Plate", "rootsOf", "(I)I"⟩ ∈ gp_ws := gp_in4 (i := 158) rfl rfl
theorem iw_4_159 : Cond.instanceMethod ⟨"GoldPlate$Plate", "rootsOf", "(I)I"⟩ ∈ gp_ws := gp_in4 (i := 159) rfl rfl
theorem iw_4_160 : Cond.selects "GoldPlate$Plate" ⟨"GoldPlate$Plate", "rootsOf", "(I)I"⟩ ⟨"GoldPlate$Plate", "rootsOf", "(I)I"⟩ ∈ gp_ws := gp_in4 (i := 160) rfl rfl
theorem iw_4_161 : Cond.code ⟨"GoldPlate$Plate", "rootsOf", "(I)I"⟩ prog_7_method_7_code 4 (some .int) ∈ gp_ws := gp_in4 (i := 161) rfl rfl
theorem iw_4_162 : Cond.methodLink "GoldPlateLaw" 67 ⟨"GoldPlate", "alone", "(II)I"⟩ ∈ gp_ws := gp_in4 (i := 162) rfl rfl
theorem iw_4_163 : Cond.instanceMethod ⟨"GoldPlate", "alone", "(II)I"⟩ ∈ gp_ws := gp_in4 (i := 163) rfl rfl
theorem iw_4_164 : Cond.selects "GoldPlate" ⟨"GoldPlate", "alone", "(II)I"⟩ ⟨"GoldPlate", "alone", "(II)I"⟩ ∈ gp_ws := gp_in4 (i := 164) rfl rfl
theorem iw_4_165 : Cond.code ⟨"GoldPlate", "alone", "(II)I"⟩ prog_1_method_21_code 3 (some .int) ∈ gp_ws := gp_in4 (i := 165) rfl rfl
theorem iw_4_166 : Cond.methodLink "GoldPlate" 238 ⟨"GoldPlate$Plate", "all", "()I"⟩ ∈ gp_ws := gp_in4 (i := 166) rfl rfl
theorem iw_4_167 : Cond.instanceMethod ⟨"GoldPlate$Plate", "all", "()I"⟩ ∈ gp_ws := gp_in4 (i := 167) rfl rfl
theorem iw_4_168 : Cond.selects "GoldPlate$Plate" ⟨"GoldPlate$Plate", "all", "()I"⟩ ⟨"GoldPlate$Plate", "all", "()I"⟩ ∈ gp_ws := gp_in4 (i := 168) rfl rfl
theorem iw_4_169 : Cond.code ⟨"GoldPlate$Plate", "all", "()I"⟩ prog_7_method_3_code 1 (some .int) ∈ gp_ws := gp_in4 (i := 169) rfl rfl
theorem iw_4_170 : Cond.methodLink "GoldPlate" 241 ⟨"GoldPlate$Plate", "rights", "(ILGoldPlate$Mind;II)I"⟩ ∈ gp_ws := gp_in4 (i := 170) rfl rfl
theorem iw_4_171 : Cond.instanceMethod ⟨"GoldPlate$Plate", "rights", "(ILGoldPlate$Mind;II)I"⟩ ∈ gp_ws := gp_in4 (i := 171) rfl rfl
theorem iw_4_172 : Cond.selects "GoldPlate$Plate" ⟨"GoldPlate$Plate", "rights", "(ILGoldPlate$Mind;II)I"⟩ ⟨"GoldPlate$Plate", "rights", "(ILGoldPlate$Mind;II)I"⟩ ∈ gp_ws := gp_in4 (i := 172) rfl rfl
theorem iw_4_173 : Cond.code ⟨"GoldPlate$Plate", "rights", "(ILGoldPlate$Mind;II)I"⟩ prog_7_method_10_code 8 (some .int) ∈ gp_ws := gp_in4 (i := 173) rfl rfl
theorem iw_4_174 : Cond.methodLink "GoldPlate$Plate" 64 ⟨"GoldPlate$Plate", "isAble", "(LGoldPlate$Mind;III)Z"⟩ ∈ gp_ws := gp_in4 (i := 174) rfl rfl
theorem iw_4_175 : Cond.instanceMethod ⟨"GoldPlate$Plate", "isAble", "(LGoldPlate$Mind;III)Z"⟩ ∈ gp_ws := gp_in4 (i := 175) rfl rfl
theorem iw_4_176 : Cond.selects "GoldPlate$Plate" ⟨"GoldPlate$Plate", "isAble", "(LGoldPlate$Mind;III)Z"⟩ ⟨"GoldPlate$Plate", "isAble", "(LGoldPlate$Mind;III)Z"⟩ ∈ gp_ws := gp_in4 (i := 176) rfl rfl
theorem iw_4_177 : Cond.code ⟨"GoldPlate$Plate", "isAble", "(LGoldPlate$Mind;III)Z"⟩ prog_7_method_9_code 7 (some .boolean) ∈ gp_ws := gp_in4 (i := 177) rfl rfl
theorem iw_4_178 : Cond.methodLink "GoldPlate$Plate" 57 ⟨"java/lang/Math", "min", "(II)I"⟩ ∈ gp_ws := gp_in4 (i := 178) rfl rfl
theorem iw_4_179 : Cond.methodLink "GoldPlateLaw" 71 ⟨"GoldPlate", "bits", "(II)I"⟩ ∈ gp_ws := gp_in4 (i := 179) rfl rfl
theorem iw_4_180 : Cond.instanceMethod ⟨"GoldPlate", "bits", "(II)I"⟩ ∈ gp_ws := gp_in4 (i := 180) rfl rfl
theorem iw_4_181 : Cond.selects "GoldPlate" ⟨"GoldPlate", "bits", "(II)I"⟩ ⟨"GoldPlate", "bits", "(II)I"⟩ ∈ gp_ws := gp_in4 (i := 181) rfl rfl
theorem iw_4_182 : Cond.code ⟨"GoldPlate", "bits", "(II)I"⟩ prog_1_method_22_code 3 (some .int) ∈ gp_ws := gp_in4 (i := 182) rfl rfl
theorem iw_4_183 : Cond.methodLink "GoldPlate" 245 ⟨"GoldPlate$BitRow", "append", "(II)I"⟩ ∈ gp_ws := gp_in4 (i := 183) rfl rfl
theorem iw_4_184 : Cond.instanceMethod ⟨"GoldPlate$BitRow", "append", "(II)I"⟩ ∈ gp_ws := gp_in4 (i := 184) rfl rfl
theorem iw_4_185 : Cond.selects "GoldPlate$BitRow" ⟨"GoldPlate$BitRow", "append", "(II)I"⟩ ⟨"GoldPlate$BitRow", "append", "(II)I"⟩ ∈ gp_ws := gp_in4 (i := 185) rfl rfl
theorem iw_4_186 : Cond.code ⟨"GoldPlate$BitRow", "append", "(II)I"⟩ prog_2_method_2_code 4 (some .int) ∈ gp_ws := gp_in4 (i := 186) rfl rfl
theorem iw_4_187 : Cond.methodLink "GoldPlateLaw" 75 ⟨"GoldPlate", "grid", "(II)I"⟩ ∈ gp_ws := gp_in4 (i := 187) rfl rfl
theorem iw_4_188 : Cond.instanceMethod ⟨"GoldPlate", "grid", "(II)I"⟩ ∈ gp_ws := gp_in4 (i := 188) rfl rfl
theorem iw_4_189 : Cond.selects "GoldPlate" ⟨"GoldPlate", "grid", "(II)I"⟩ ⟨"GoldPlate", "grid", "(II)I"⟩ ∈ gp_ws := gp_in4 (i := 189) rfl rfl
theorem iw_4_190 : Cond.code ⟨"GoldPlate", "grid", "(II)I"⟩ prog_1_method_23_code 3 (some .int) ∈ gp_ws := gp_in4 (i := 190) rfl rfl
theorem iw_4_191 : Cond.methodLink "GoldPlateLaw" 79 ⟨"GoldPlate", "widths", "(II)I"⟩ ∈ gp_ws := gp_in4 (i := 191) rfl rfl
theorem iw_4_192 : Cond.instanceMethod ⟨"GoldPlate", "widths", "(II)I"⟩ ∈ gp_ws := gp_in4 (i := 192) rfl rfl
theorem iw_4_193 : Cond.selects "GoldPlate" ⟨"GoldPlate", "widths", "(II)I"⟩ ⟨"GoldPlate", "widths", "(II)I"⟩ ∈ gp_ws := gp_in4 (i := 193) rfl rfl
theorem iw_4_194 : Cond.code ⟨"GoldPlate", "widths", "(II)I"⟩ prog_1_method_24_code 3 (some .int) ∈ gp_ws := gp_in4 (i := 194) rfl rfl
theorem iw_4_195 : Cond.methodLink "GoldPlate" 249 ⟨"GoldPlate$Widths", "order", "(LGoldPlate$BitRow;LGoldPlate$Mind;LGoldPlate$Sums;)V"⟩ ∈ gp_ws := gp_in4 (i := 195) rfl rfl
theorem iw_4_196 : Cond.instanceMethod ⟨"GoldPlate$Widths", "order", "(LGoldPlate$BitRow;LGoldPlate$Mind;LGoldPlate$Sums;)V"⟩ ∈ gp_ws := gp_in4 (i := 196) rfl rfl
theorem iw_4_197 : Cond.selects "GoldPlate$Widths" ⟨"GoldPlate$Widths", "order", "(LGoldPlate$BitRow;LGoldPlate$Mind;LGoldPlate$Sums;)V"⟩ ⟨"GoldPlate$Widths", "order", "(LGoldPlate$BitRow;LGoldPlate$Mind;LGoldPlate$Sums;)V"⟩ ∈ gp_ws := gp_in4 (i := 197) rfl rfl
theorem iw_4_198 : Cond.code ⟨"GoldPlate$Widths", "order", "(LGoldPlate$BitRow;LGoldPlate$Mind;LGoldPlate$Sums;)V"⟩ prog_12_method_2_code 5 none ∈ gp_ws := gp_in4 (i := 198) rfl rfl
theorem iw_4_199 : Cond.methodLink "GoldPlate$Widths" 25 ⟨"GoldPlate$BitRow", "foldsBy", "(I)Z"⟩ ∈ gp_ws := gp_in4 (i := 199) rfl rfl
theorem iw_4_200 : Cond.instanceMethod ⟨"GoldPlate$BitRow", "foldsBy", "(I)Z"⟩ ∈ gp_ws := gp_in4 (i := 200) rfl rfl
theorem iw_4_201 : Cond.selects "GoldPlate$BitRow" ⟨"GoldPlate$BitRow", "foldsBy", "(I)Z"⟩ ⟨"GoldPlate$BitRow", "foldsBy", "(I)Z"⟩ ∈ gp_ws := gp_in4 (i := 201) rfl rfl
theorem iw_4_202 : Cond.code ⟨"GoldPlate$BitRow", "foldsBy", "(I)Z"⟩ prog_2_method_3_code 2 (some .boolean) ∈ gp_ws := gp_in4 (i := 202) rfl rfl
theorem iw_4_203 : Cond.methodLink "GoldPlate$Widths" 29 ⟨"GoldPlate$Widths", "rankOf", "(LGoldPlate$BitRow;ILGoldPlate$Mind;LGoldPlate$Sums;)I"⟩ ∈ gp_ws := gp_in4 (i := 203) rfl rfl
theorem iw_4_204 : Cond.static ⟨"GoldPlate$Widths", "rankOf", "(LGoldPlate$BitRow;ILGoldPlate$Mind;LGoldPlate$Sums;)I"⟩ ∈ gp_ws := gp_in4 (i := 204) rfl rfl
theorem iw_4_205 : Cond.code ⟨"GoldPlate$Widths", "rankOf", "(LGoldPlate$BitRow;ILGoldPlate$Mind;LGoldPlate$Sums;)I"⟩ prog_12_method_3_code 5 (some .int) ∈ gp_ws := gp_in4 (i := 205) rfl rfl
theorem iw_4_206 : Cond.methodLink "GoldPlate$Widths" 37 ⟨"GoldPlate$BitRow", "heightFor", "(I)I"⟩ ∈ gp_ws := gp_in4 (i := 206) rfl rfl
theorem iw_4_207 : Cond.instanceMethod ⟨"GoldPlate$BitRow", "heightFor", "(I)I"⟩ ∈ gp_ws := gp_in4 (i := 207) rfl rfl
theorem iw_4_208 : Cond.selects "GoldPlate$BitRow" ⟨"GoldPlate$BitRow", "heightFor", "(I)I"⟩ ⟨"GoldPlate$BitRow", "heightFor", "(I)I"⟩ ∈ gp_ws := gp_in4 (i := 208) rfl rfl
theorem iw_4_209 : Cond.code ⟨"GoldPlate$BitRow", "heightFor", "(I)I"⟩ prog_2_method_8_code 2 (some .int) ∈ gp_ws := gp_in4 (i := 209) rfl rfl
theorem iw_4_210 : Cond.methodLink "GoldPlate$Widths" 41 ⟨"GoldPlate$Sums", "clear", "()V"⟩ ∈ gp_ws := gp_in4 (i := 210) rfl rfl
theorem iw_4_211 : Cond.methodLink "GoldPlate$Widths" 49 ⟨"GoldPlate$Widths", "isPrime", "(I)Z"⟩ ∈ gp_ws := gp_in4 (i := 211) rfl rfl
theorem iw_4_212 : Cond.static ⟨"GoldPlate$Widths", "isPrime", "(I)Z"⟩ ∈ gp_ws := gp_in4 (i := 212) rfl rfl
theorem iw_4_213 : Cond.code ⟨"GoldPlate$Widths", "isPrime", "(I)Z"⟩ prog_12_method_4_code 2 (some .boolean) ∈ gp_ws := gp_in4 (i := 213) rfl rfl
theorem iw_4_214 : Cond.methodLink "GoldPlate$Widths" 52 ⟨"GoldPlate$BitRow", "edges", "(I)I"⟩ ∈ gp_ws := gp_in4 (i := 214) rfl rfl
theorem iw_4_215 : Cond.instanceMethod ⟨"GoldPlate$BitRow", "edges", "(I)I"⟩ ∈ gp_ws := gp_in4 (i := 215) rfl rfl
theorem iw_4_216 : Cond.selects "GoldPlate$BitRow" ⟨"GoldPlate$BitRow", "edges", "(I)I"⟩ ⟨"GoldPlate$BitRow", "edges", "(I)I"⟩ ∈ gp_ws := gp_in4 (i := 216) rfl rfl
theorem iw_4_217 : Cond.code ⟨"GoldPlate$BitRow", "edges", "(I)I"⟩ prog_2_method_4_code 5 (some .int) ∈ gp_ws := gp_in4 (i := 217) rfl rfl
theorem iw_4_218 : Cond.methodLink "GoldPlate$Widths" 55 ⟨"java/lang/Math", "abs", "(I)I"⟩ ∈ gp_ws := gp_in4 (i := 218) rfl rfl
theorem iw_4_219 : Cond.static ⟨"java/lang/Math", "abs", "(I)I"⟩ ∈ gp_ws := gp_in4 (i := 219) rfl rfl
theorem iw_4_220 : Cond.code ⟨"java/lang/Math", "abs", "(I)I"⟩ prog_17_method_59_code 1 (some .int) ∈ gp_ws := gp_in4 (i := 220) rfl rfl
theorem iw_4_221 : Cond.methodLink "GoldPlate$Widths" 60 ⟨"GoldPlate$Mind", "rankBy", "(LGoldPlate$Sums;)I"⟩ ∈ gp_ws := gp_in4 (i := 221) rfl rfl
theorem iw_4_222 : Cond.instanceMethod ⟨"GoldPlate$Mind", "rankBy", "(LGoldPlate$Sums;)I"⟩ ∈ gp_ws := gp_in4 (i := 222) rfl rfl
theorem iw_4_223 : Cond.selects "GoldPlate$Mind" ⟨"GoldPlate$Mind", "rankBy", "(LGoldPlate$Sums;)I"⟩ ⟨"GoldPlate$Mind", "rankBy", "(LGoldPlate$Sums;)I"⟩ ∈ gp_ws := gp_in4 (i := 223) rfl rfl
theorem iw_4_224 : Cond.code ⟨"GoldPlate$Mind", "rankBy", "(LGoldPlate$Sums;)I"⟩ prog_5_method_4_code 2 (some .int) ∈ gp_ws := gp_in4 (i := 224) rfl rfl
theorem iw_4_225 : Cond.methodLink "GoldPlate$Widths" 33 ⟨"GoldPlate$Widths", "insert", "(II)V"⟩ ∈ gp_ws := gp_in4 (i := 225) rfl rfl
theorem iw_4_227 : Cond.instanceMethod ⟨"GoldPlate$Widths", "insert", "(II)V"⟩ ∈ gp_ws := gp_in4 (i := 227) rfl rfl
theorem iw_4_228 : Cond.code ⟨"GoldPlate$Widths", "insert", "(II)V"⟩ prog_12_method_5_code 5 none ∈ gp_ws := gp_in4 (i := 228) rfl rfl
theorem iw_4_229 : Cond.methodLink "GoldPlateLaw" 83 ⟨"GoldPlate", "laid", "(III)I"⟩ ∈ gp_ws := gp_in4 (i := 229) rfl rfl
theorem iw_4_230 : Cond.instanceMethod ⟨"GoldPlate", "laid", "(III)I"⟩ ∈ gp_ws := gp_in4 (i := 230) rfl rfl
theorem iw_4_231 : Cond.selects "GoldPlate" ⟨"GoldPlate", "laid", "(III)I"⟩ ⟨"GoldPlate", "laid", "(III)I"⟩ ∈ gp_ws := gp_in4 (i := 231) rfl rfl
theorem iw_4_232 : Cond.code ⟨"GoldPlate", "laid", "(III)I"⟩ prog_1_method_25_code 5 (some .int) ∈ gp_ws := gp_in4 (i := 232) rfl rfl
theorem iw_4_233 : Cond.methodLink "GoldPlate" 259 ⟨"GoldPlate$BitRow", "foldsBy", "(I)Z"⟩ ∈ gp_ws := gp_in4 (i := 233) rfl rfl
theorem iw_4_234 : Cond.methodLink "GoldPlate" 266 ⟨"GoldPlate$BitRow", "agreements", "(LGoldPlate$BitRow;II)I"⟩ ∈ gp_ws := gp_in4 (i := 234) rfl rfl
theorem iw_4_235 : Cond.instanceMethod ⟨"GoldPlate$BitRow", "agreements", "(LGoldPlate$BitRow;II)I"⟩ ∈ gp_ws := gp_in4 (i := 235) rfl rfl
theorem iw_4_236 : Cond.selects "GoldPlate$BitRow" ⟨"GoldPlate$BitRow", "agreements", "(LGoldPlate$BitRow;II)I"⟩ ⟨"GoldPlate$BitRow", "agreements", "(LGoldPlate$BitRow;II)I"⟩ ∈ gp_ws := gp_in4 (i := 236) rfl rfl
theorem iw_4_237 : Cond.code ⟨"GoldPlate$BitRow", "agreements", "(LGoldPlate$BitRow;II)I"⟩ prog_2_method_6_code 7 (some .int) ∈ gp_ws := gp_in4 (i := 237) rfl rfl
theorem iw_4_238 : Cond.methodLink "GoldPlate$BitRow" 19 ⟨"GoldPlate$BitRow", "heightFor", "(I)I"⟩ ∈ gp_ws := gp_in4 (i := 238) rfl rfl
theorem iw_4_239 : Cond.methodLink "GoldPlate$BitRow" 23 ⟨"GoldPlate$BitRow", "placeOf", "(IIII)I"⟩ ∈ gp_ws := gp_in4 (i := 239) rfl rfl
theorem iw_5_0 : Cond.static ⟨"GoldPlate$BitRow", "placeOf", "(IIII)I"⟩ ∈ gp_ws := gp_in5 (i := 0) rfl rfl
theorem iw_5_1 : Cond.code ⟨"GoldPlate$BitRow", "placeOf", "(IIII)I"⟩ prog_2_method_5_code 4 (some .int) ∈ gp_ws := gp_in5 (i := 1) rfl rfl
theorem iw_5_2 : Cond.methodLink "GoldPlate" 270 ⟨"GoldPlate$BitRow", "isHalf", "(LGoldPlate$BitRow;II)Z"⟩ ∈ gp_ws := gp_in5 (i := 2) rfl rfl
theorem iw_5_3 : Cond.instanceMethod ⟨"GoldPlate$BitRow", "isHalf", "(LGoldPlate$BitRow;II)Z"⟩ ∈ gp_ws := gp_in5 (i := 3) rfl rfl
theorem iw_5_4 : Cond.selects "GoldPlate$BitRow" ⟨"GoldPlate$BitRow", "isHalf", "(LGoldPlate$BitRow;II)Z"⟩ ⟨"GoldPlate$BitRow", "isHalf", "(LGoldPlate$BitRow;II)Z"⟩ ∈ gp_ws := gp_in5 (i := 4) rfl rfl
theorem iw_5_5 : Cond.code ⟨"GoldPlate$BitRow", "isHalf", "(LGoldPlate$BitRow;II)Z"⟩ prog_2_method_7_code 7 (some .boolean) ∈ gp_ws := gp_in5 (i := 5) rfl rfl
theorem iw_5_6 : Cond.methodLink "GoldPlateLaw" 88 ⟨"GoldPlate", "beat", "(IIII)I"⟩ ∈ gp_ws := gp_in5 (i := 6) rfl rfl
theorem iw_5_7 : Cond.instanceMethod ⟨"GoldPlate", "beat", "(IIII)I"⟩ ∈ gp_ws := gp_in5 (i := 7) rfl rfl
theorem iw_5_8 : Cond.selects "GoldPlate" ⟨"GoldPlate", "beat", "(IIII)I"⟩ ⟨"GoldPlate", "beat", "(IIII)I"⟩ ∈ gp_ws := gp_in5 (i := 8) rfl rfl
theorem iw_5_9 : Cond.code ⟨"GoldPlate", "beat", "(IIII)I"⟩ prog_1_method_26_code 6 (some .int) ∈ gp_ws := gp_in5 (i := 9) rfl rfl
theorem iw_5_10 : Cond.constant "GoldPlate" 274 (999999) ∈ gp_ws := gp_in5 (i := 10) rfl rfl
theorem iw_5_11 : Cond.methodLink "GoldPlate" 275 ⟨"GoldPlate$Sky", "add", "(IIII)I"⟩ ∈ gp_ws := gp_in5 (i := 11) rfl rfl
theorem iw_5_12 : Cond.instanceMethod ⟨"GoldPlate$Sky", "add", "(IIII)I"⟩ ∈ gp_ws := gp_in5 (i := 12) rfl rfl
theorem iw_5_13 : Cond.selects "GoldPlate$Sky" ⟨"GoldPlate$Sky", "add", "(IIII)I"⟩ ⟨"GoldPlate$Sky", "add", "(IIII)I"⟩ ∈ gp_ws := gp_in5 (i := 13) rfl rfl
theorem iw_5_14 : Cond.code ⟨"GoldPlate$Sky", "add", "(IIII)I"⟩ prog_9_method_2_code 5 (some .int) ∈ gp_ws := gp_in5 (i := 14) rfl rfl
theorem iw_5_15 : Cond.methodLink "GoldPlateLaw" 93 ⟨"GoldPlate", "found", "(III)Z"⟩ ∈ gp_ws := gp_in5 (i := 15) rfl rfl
theorem iw_5_16 : Cond.instanceMethod ⟨"GoldPlate", "found", "(III)Z"⟩ ∈ gp_ws := gp_in5 (i := 16) rfl rfl
theorem iw_5_17 : Cond.selects "GoldPlate" ⟨"GoldPlate", "found", "(III)Z"⟩ ⟨"GoldPlate", "found", "(III)Z"⟩ ∈ gp_ws := gp_in5 (i := 17) rfl rfl
theorem iw_5_18 : Cond.code ⟨"GoldPlate", "found", "(III)Z"⟩ prog_1_method_27_code 5 (some .boolean) ∈ gp_ws := gp_in5 (i := 18) rfl rfl
theorem iw_5_19 : Cond.constant "GoldPlate" 279 (9999999) ∈ gp_ws := gp_in5 (i := 19) rfl rfl
theorem iw_5_20 : Cond.methodLink "GoldPlate" 280 ⟨"GoldPlate$Sky", "has", "(I)Z"⟩ ∈ gp_ws := gp_in5 (i := 20) rfl rfl
theorem iw_5_21 : Cond.instanceMethod ⟨"GoldPlate$Sky", "has", "(I)Z"⟩ ∈ gp_ws := gp_in5 (i := 21) rfl rfl
theorem iw_5_22 : Cond.selects "GoldPlate$Sky" ⟨"GoldPlate$Sky", "has", "(I)Z"⟩ ⟨"GoldPlate$Sky", "has", "(I)Z"⟩ ∈ gp_ws := gp_in5 (i := 22) rfl rfl
theorem iw_5_23 : Cond.code ⟨"GoldPlate$Sky", "has", "(I)Z"⟩ prog_9_method_3_code 2 (some .boolean) ∈ gp_ws := gp_in5 (i := 23) rfl rfl
theorem iw_5_24 : Cond.methodLink "GoldPlateLaw" 97 ⟨"GoldPlate", "far", "(II)Z"⟩ ∈ gp_ws := gp_in5 (i := 24) rfl rfl
theorem iw_5_25 : Cond.instanceMethod ⟨"GoldPlate", "far", "(II)Z"⟩ ∈ gp_ws := gp_in5 (i := 25) rfl rfl
theorem iw_5_26 : Cond.selects "GoldPlate" ⟨"GoldPlate", "far", "(II)Z"⟩ ⟨"GoldPlate", "far", "(II)Z"⟩ ∈ gp_ws := gp_in5 (i := 26) rfl rfl
theorem iw_5_27 : Cond.code ⟨"GoldPlate", "far", "(II)Z"⟩ prog_1_method_28_code 3 (some .boolean) ∈ gp_ws := gp_in5 (i := 27) rfl rfl
theorem iw_5_28 : Cond.methodLink "GoldPlateLaw" 101 ⟨"GoldPlate", "years", "(I)I"⟩ ∈ gp_ws := gp_in5 (i := 28) rfl rfl
theorem iw_5_29 : Cond.instanceMethod ⟨"GoldPlate", "years", "(I)I"⟩ ∈ gp_ws := gp_in5 (i := 29) rfl rfl
theorem iw_5_30 : Cond.selects "GoldPlate" ⟨"GoldPlate", "years", "(I)I"⟩ ⟨"GoldPlate", "years", "(I)I"⟩ ∈ gp_ws := gp_in5 (i := 30) rfl rfl
theorem iw_5_31 : Cond.code ⟨"GoldPlate", "years", "(I)I"⟩ prog_1_method_29_code 2 (some .int) ∈ gp_ws := gp_in5 (i := 31) rfl rfl
theorem iw_5_32 : Cond.methodLink "GoldPlate" 290 ⟨"GoldPlate$Sky", "countYears", "()V"⟩ ∈ gp_ws := gp_in5 (i := 32) rfl rfl
theorem iw_5_33 : Cond.instanceMethod ⟨"GoldPlate$Sky", "countYears", "()V"⟩ ∈ gp_ws := gp_in5 (i := 33) rfl rfl
theorem iw_5_34 : Cond.selects "GoldPlate$Sky" ⟨"GoldPlate$Sky", "countYears", "()V"⟩ ⟨"GoldPlate$Sky", "countYears", "()V"⟩ ∈ gp_ws := gp_in5 (i := 34) rfl rfl
theorem iw_5_35 : Cond.code ⟨"GoldPlate$Sky", "countYears", "()V"⟩ prog_9_method_4_code 3 none ∈ gp_ws := gp_in5 (i := 35) rfl rfl
theorem iw_5_36 : Cond.methodLink "GoldPlate$Sky" 46 ⟨"GoldPlate$Sky", "anyFound", "()Z"⟩ ∈ gp_ws := gp_in5 (i := 36) rfl rfl
theorem iw_5_38 : Cond.instanceMethod ⟨"GoldPlate$Sky", "anyFound", "()Z"⟩ ∈ gp_ws := gp_in5 (i := 38) rfl rfl
theorem iw_5_39 : Cond.code ⟨"GoldPlate$Sky", "anyFound", "()Z"⟩ prog_9_method_5_code 2 (some .boolean) ∈ gp_ws := gp_in5 (i := 39) rfl rfl
theorem iw_5_40 : Cond.methodLink "GoldPlate$Sky" 50 ⟨"GoldPlate$Sky", "fitsAll", "(I)Z"⟩ ∈ gp_ws := gp_in5 (i := 40) rfl rfl
theorem iw_5_42 : Cond.instanceMethod ⟨"GoldPlate$Sky", "fitsAll", "(I)Z"⟩ ∈ gp_ws := gp_in5 (i := 42) rfl rfl
theorem iw_5_43 : Cond.code ⟨"GoldPlate$Sky", "fitsAll", "(I)Z"⟩ prog_9_method_6_code 3 (some .boolean) ∈ gp_ws := gp_in5 (i := 43) rfl rfl
theorem iw_5_44 : Cond.methodLink "GoldPlate$Sky" 54 ⟨"GoldPlate$Sky", "fits", "(II)Z"⟩ ∈ gp_ws := gp_in5 (i := 44) rfl rfl
theorem iw_5_46 : Cond.instanceMethod ⟨"GoldPlate$Sky", "fits", "(II)Z"⟩ ∈ gp_ws := gp_in5 (i := 46) rfl rfl
theorem iw_5_47 : Cond.code ⟨"GoldPlate$Sky", "fits", "(II)Z"⟩ prog_9_method_7_code 7 (some .boolean) ∈ gp_ws := gp_in5 (i := 47) rfl rfl
theorem iw_5_48 : Cond.constantLong "GoldPlate$Sky" 58 (1000000) ∈ gp_ws := gp_in5 (i := 48) rfl rfl
theorem iw_5_49 : Cond.methodLink "GoldPlateLaw" 105 ⟨"GoldPlate", "places", "(II)I"⟩ ∈ gp_ws := gp_in5 (i := 49) rfl rfl
theorem iw_5_50 : Cond.instanceMethod ⟨"GoldPlate", "places", "(II)I"⟩ ∈ gp_ws := gp_in5 (i := 50) rfl rfl
theorem iw_5_51 : Cond.selects "GoldPlate" ⟨"GoldPlate", "places", "(II)I"⟩ ⟨"GoldPlate", "places", "(II)I"⟩ ∈ gp_ws := gp_in5 (i := 51) rfl rfl
theorem iw_5_52 : Cond.code ⟨"GoldPlate", "places", "(II)I"⟩ prog_1_method_30_code 3 (some .int) ∈ gp_ws := gp_in5 (i := 52) rfl rfl
theorem iw_5_53 : Cond.methodLink "GoldPlate" 302 ⟨"GoldPlate$Sky", "countPlaces", "(I)V"⟩ ∈ gp_ws := gp_in5 (i := 53) rfl rfl
theorem iw_5_54 : Cond.instanceMethod ⟨"GoldPlate$Sky", "countPlaces", "(I)V"⟩ ∈ gp_ws := gp_in5 (i := 54) rfl rfl
theorem iw_5_55 : Cond.selects "GoldPlate$Sky" ⟨"GoldPlate$Sky", "countPlaces", "(I)V"⟩ ⟨"GoldPlate$Sky", "countPlaces", "(I)V"⟩ ∈ gp_ws := gp_in5 (i := 55) rfl rfl
theorem iw_5_56 : Cond.code ⟨"GoldPlate$Sky", "countPlaces", "(I)V"⟩ prog_9_method_8_code 3 none ∈ gp_ws := gp_in5 (i := 56) rfl rfl
theorem iw_5_57 : Cond.methodLink "GoldPlate$Sky" 66 ⟨"GoldPlate$Sky", "isPlace", "(III)Z"⟩ ∈ gp_ws := gp_in5 (i := 57) rfl rfl
theorem iw_5_59 : Cond.instanceMethod ⟨"GoldPlate$Sky", "isPlace", "(III)Z"⟩ ∈ gp_ws := gp_in5 (i := 59) rfl rfl
theorem iw_5_60 : Cond.code ⟨"GoldPlate$Sky", "isPlace", "(III)Z"⟩ prog_9_method_9_code 8 (some .boolean) ∈ gp_ws := gp_in5 (i := 60) rfl rfl
theorem iw_5_61 : Cond.methodLink "GoldPlate$Sky" 70 ⟨"GoldPlate$Sky", "isAbout", "(III)Z"⟩ ∈ gp_ws := gp_in5 (i := 61) rfl rfl
theorem iw_5_62 : Cond.static ⟨"GoldPlate$Sky", "isAbout", "(III)Z"⟩ ∈ gp_ws := gp_in5 (i := 62) rfl rfl
theorem iw_5_63 : Cond.code ⟨"GoldPlate$Sky", "isAbout", "(III)Z"⟩ prog_9_method_10_code 5 (some .boolean) ∈ gp_ws := gp_in5 (i := 63) rfl rfl
theorem iw_5_64 : Cond.methodLink "GoldPlate$Sky" 73 ⟨"java/lang/Math", "max", "(II)I"⟩ ∈ gp_ws := gp_in5 (i := 64) rfl rfl
theorem iw_5_65 : Cond.methodLink "GoldPlateLaw" 109 ⟨"GoldPlate", "told", "(II)I"⟩ ∈ gp_ws := gp_in5 (i := 65) rfl rfl
theorem iw_5_66 : Cond.instanceMethod ⟨"GoldPlate", "told", "(II)I"⟩ ∈ gp_ws := gp_in5 (i := 66) rfl rfl
theorem iw_5_67 : Cond.selects "GoldPlate" ⟨"GoldPlate", "told", "(II)I"⟩ ⟨"GoldPlate", "told", "(II)I"⟩ ∈ gp_ws := gp_in5 (i := 67) rfl rfl
theorem iw_5_68 : Cond.code ⟨"GoldPlate", "told", "(II)I"⟩ prog_1_method_31_code 3 (some .int) ∈ gp_ws := gp_in5 (i := 68) rfl rfl
theorem iw_5_69 : Cond.constant "GoldPlate" 311 (65535) ∈ gp_ws := gp_in5 (i := 69) rfl rfl
theorem iw_5_70 : Cond.methodLink "GoldPlate" 312 ⟨"GoldPlate$Plate", "thingsOf", "(I)I"⟩ ∈ gp_ws := gp_in5 (i := 70) rfl rfl
theorem iw_5_71 : Cond.instanceMethod ⟨"GoldPlate$Plate", "thingsOf", "(I)I"⟩ ∈ gp_ws := gp_in5 (i := 71) rfl rfl
theorem iw_5_72 : Cond.selects "GoldPlate$Plate" ⟨"GoldPlate$Plate", "thingsOf", "(I)I"⟩ ⟨"GoldPlate$Plate", "thingsOf", "(I)I"⟩ ∈ gp_ws := gp_in5 (i := 72) rfl rfl
theorem iw_5_73 : Cond.code ⟨"GoldPlate$Plate", "thingsOf", "(I)I"⟩ prog_7_method_11_code 4 (some .int) ∈ gp_ws := gp_in5 (i := 73) rfl rfl
theorem iw_5_74 : Cond.methodLink "GoldPlateLaw" 113 ⟨"GoldPlate", "best", "(III)I"⟩ ∈ gp_ws := gp_in5 (i := 74) rfl rfl
theorem iw_5_75 : Cond.instanceMethod ⟨"GoldPlate", "best", "(III)I"⟩ ∈ gp_ws := gp_in5 (i := 75) rfl rfl
theorem iw_5_76 : Cond.selects "GoldPlate" ⟨"GoldPlate", "best", "(III)I"⟩ ⟨"GoldPlate", "best", "(III)I"⟩ ∈ gp_ws := gp_in5 (i := 76) rfl rfl
theorem iw_5_77 : Cond.code ⟨"GoldPlate", "best", "(III)I"⟩ prog_1_method_32_code 4 (some .int) ∈ gp_ws := gp_in5 (i := 77) rfl rfl
theorem iw_5_78 : Cond.methodLink "GoldPlate" 315 ⟨"GoldPlate$Chooser", "findBest", "(IIZ)V"⟩ ∈ gp_ws := gp_in5 (i := 78) rfl rfl
theorem iw_5_79 : Cond.instanceMethod ⟨"GoldPlate$Chooser", "findBest", "(IIZ)V"⟩ ∈ gp_ws := gp_in5 (i := 79) rfl rfl
theorem iw_5_80 : Cond.selects "GoldPlate$Chooser" ⟨"GoldPlate$Chooser", "findBest", "(IIZ)V"⟩ ⟨"GoldPlate$Chooser", "findBest", "(IIZ)V"⟩ ∈ gp_ws := gp_in5 (i := 80) rfl rfl
theorem iw_5_81 : Cond.code ⟨"GoldPlate$Chooser", "findBest", "(IIZ)V"⟩ prog_3_method_2_code 5 none ∈ gp_ws := gp_in5 (i := 81) rfl rfl
theorem iw_5_82 : Cond.methodLink "GoldPlate$Chooser" 35 ⟨"java/lang/Math", "min", "(II)I"⟩ ∈ gp_ws := gp_in5 (i := 82) rfl rfl
theorem iw_5_83 : Cond.methodLink "GoldPlate$Chooser" 61 ⟨"GoldPlate$Chooser", "ableMarks", "(LGoldPlate$Mind;)I"⟩ ∈ gp_ws := gp_in5 (i := 83) rfl rfl
theorem iw_5_85 : Cond.instanceMethod ⟨"GoldPlate$Chooser", "ableMarks", "(LGoldPlate$Mind;)I"⟩ ∈ gp_ws := gp_in5 (i := 85) rfl rfl
theorem iw_5_86 : Cond.code ⟨"GoldPlate$Chooser", "ableMarks", "(LGoldPlate$Mind;)I"⟩ prog_3_method_3_code 4 (some .int) ∈ gp_ws := gp_in5 (i := 86) rfl rfl
theorem iw_5_87 : Cond.methodLink "GoldPlate$Chooser" 72 ⟨"GoldPlate$Plate", "isAble", "(LGoldPlate$Mind;III)Z"⟩ ∈ gp_ws := gp_in5 (i := 87) rfl rfl
theorem iw_5_88 : Cond.methodLink "GoldPlate$Chooser" 65 ⟨"GoldPlate$Chooser", "grow", "(IIII)V"⟩ ∈ gp_ws := gp_in5 (i := 88) rfl rfl
theorem iw_5_90 : Cond.instanceMethod ⟨"GoldPlate$Chooser", "grow", "(IIII)V"⟩ ∈ gp_ws := gp_in5 (i := 90) rfl rfl
theorem iw_5_91 : Cond.code ⟨"GoldPlate$Chooser", "grow", "(IIII)V"⟩ prog_3_method_4_code 7 none ∈ gp_ws := gp_in5 (i := 91) rfl rfl
theorem iw_5_92 : Cond.methodLink "GoldPlate$Chooser" 76 ⟨"GoldPlate$Chooser", "judge", "(III)V"⟩ ∈ gp_ws := gp_in5 (i := 92) rfl rfl
theorem iw_5_94 : Cond.instanceMethod ⟨"GoldPlate$Chooser", "judge", "(III)V"⟩ ∈ gp_ws := gp_in5 (i := 94) rfl rfl
theorem iw_5_95 : Cond.code ⟨"GoldPlate$Chooser", "judge", "(III)V"⟩ prog_3_method_6_code 6 none ∈ gp_ws := gp_in5 (i := 95) rfl rfl
theorem iw_5_96 : Cond.methodLink "GoldPlate$Chooser" 99 ⟨"GoldPlate$Chooser", "scoreOf", "(I)I"⟩ ∈ gp_ws := gp_in5 (i := 96) rfl rfl
theorem iw_5_98 : Cond.instanceMethod ⟨"GoldPlate$Chooser", "scoreOf", "(I)I"⟩ ∈ gp_ws := gp_in5 (i := 98) rfl rfl
theorem iw_5_99 : Cond.code ⟨"GoldPlate$Chooser", "scoreOf", "(I)I"⟩ prog_3_method_7_code 6 (some .int) ∈ gp_ws := gp_in5 (i := 99) rfl rfl
theorem iw_5_100 : Cond.methodLink "GoldPlate$Chooser" 103 ⟨"java/lang/Integer", "bitCount", "(I)I"⟩ ∈ gp_ws := gp_in5 (i := 100) rfl rfl
theorem iw_5_101 : Cond.static ⟨"java/lang/Integer", "bitCount", "(I)I"⟩ ∈ gp_ws := gp_in5 (i := 101) rfl rfl
theorem iw_5_102 : Cond.code ⟨"java/lang/Integer", "bitCount", "(I)I"⟩ prog_16_method_49_code 1 (some .int) ∈ gp_ws := gp_in5 (i := 102) rfl rfl
theorem iw_5_103 : Cond.constant "java/lang/Integer" 265 (1431655765) ∈ gp_ws := gp_in5 (i := 103) rfl rfl
theorem iw_5_104 : Cond.constant "java/lang/Integer" 266 (858993459) ∈ gp_ws := gp_in5 (i := 104) rfl rfl
theorem iw_5_105 : Cond.constant "java/lang/Integer" 267 (252645135) ∈ gp_ws := gp_in5 (i := 105) rfl rfl
theorem iw_5_106 : Cond.methodLink "GoldPlate$Chooser" 89 ⟨"GoldPlate$Chooser", "gains", "(II)Z"⟩ ∈ gp_ws := gp_in5 (i := 106) rfl rfl
theorem iw_5_108 : Cond.instanceMethod ⟨"GoldPlate$Chooser", "gains", "(II)Z"⟩ ∈ gp_ws := gp_in5 (i := 108) rfl rfl
theorem iw_5_109 : Cond.code ⟨"GoldPlate$Chooser", "gains", "(II)Z"⟩ prog_3_method_5_code 9 (some .boolean) ∈ gp_ws := gp_in5 (i := 109) rfl rfl
theorem iw_5_110 : Cond.methodLink "GoldPlateLaw" 117 ⟨"GoldPlate", "never", "(I)I"⟩ ∈ gp_ws := gp_in5 (i := 110) rfl rfl
theorem iw_5_111 : Cond.instanceMethod ⟨"GoldPlate", "never", "(I)I"⟩ ∈ gp_ws := gp_in5 (i := 111) rfl rfl
theorem iw_5_112 : Cond.selects "GoldPlate" ⟨"GoldPlate", "never", "(I)I"⟩ ⟨"GoldPlate", "never", "(I)I"⟩ ∈ gp_ws := gp_in5 (i := 112) rfl rfl
theorem iw_5_113 : Cond.code ⟨"GoldPlate", "never", "(I)I"⟩ prog_1_method_33_code 3 (some .int) ∈ gp_ws := gp_in5 (i := 113) rfl rfl
theorem iw_5_114 : Cond.methodLink "GoldPlateLaw" 121 ⟨"GoldPlate", "deeper", "(II)I"⟩ ∈ gp_ws := gp_in5 (i := 114) rfl rfl
theorem iw_5_115 : Cond.instanceMethod ⟨"GoldPlate", "deeper", "(II)I"⟩ ∈ gp_ws := gp_in5 (i := 115) rfl rfl
theorem iw_5_116 : Cond.selects "GoldPlate" ⟨"GoldPlate", "deeper", "(II)I"⟩ ⟨"GoldPlate", "deeper", "(II)I"⟩ ∈ gp_ws := gp_in5 (i := 116) rfl rfl
theorem iw_5_117 : Cond.code ⟨"GoldPlate", "deeper", "(II)I"⟩ prog_1_method_34_code 7 (some .int) ∈ gp_ws := gp_in5 (i := 117) rfl rfl
theorem iw_5_118 : Cond.methodLink "GoldPlate" 325 ⟨"GoldPlate", "countTold", "(III)I"⟩ ∈ gp_ws := gp_in5 (i := 118) rfl rfl
theorem iw_5_120 : Cond.instanceMethod ⟨"GoldPlate", "countTold", "(III)I"⟩ ∈ gp_ws := gp_in5 (i := 120) rfl rfl
theorem iw_5_121 : Cond.code ⟨"GoldPlate", "countTold", "(III)I"⟩ prog_1_method_35_code 4 (some .int) ∈ gp_ws := gp_in5 (i := 121) rfl rfl
theorem iw_5_122 : Cond.methodLink "GoldPlate" 329 ⟨"java/lang/Integer", "bitCount", "(I)I"⟩ ∈ gp_ws := gp_in5 (i := 122) rfl rfl
theorem iw_5_123 : Cond.methodLink "GoldPlateLaw" 125 ⟨"GoldPlate", "trial", "(I)I"⟩ ∈ gp_ws := gp_in5 (i := 123) rfl rfl
theorem iw_5_124 : Cond.instanceMethod ⟨"GoldPlate", "trial", "(I)I"⟩ ∈ gp_ws := gp_in5 (i := 124) rfl rfl
theorem iw_5_125 : Cond.selects "GoldPlate" ⟨"GoldPlate", "trial", "(I)I"⟩ ⟨"GoldPlate", "trial", "(I)I"⟩ ∈ gp_ws := gp_in5 (i := 125) rfl rfl
theorem iw_5_126 : Cond.code ⟨"GoldPlate", "trial", "(I)I"⟩ prog_1_method_36_code 3 (some .int) ∈ gp_ws := gp_in5 (i := 126) rfl rfl
theorem iw_5_127 : Cond.methodLink "GoldPlate" 334 ⟨"GoldPlate", "othersAreThere", "(I)Z"⟩ ∈ gp_ws := gp_in5 (i := 127) rfl rfl
theorem iw_5_129 : Cond.instanceMethod ⟨"GoldPlate", "othersAreThere", "(I)Z"⟩ ∈ gp_ws := gp_in5 (i := 129) rfl rfl
theorem iw_5_130 : Cond.code ⟨"GoldPlate", "othersAreThere", "(I)Z"⟩ prog_1_method_37_code 5 (some .boolean) ∈ gp_ws := gp_in5 (i := 130) rfl rfl
theorem iw_5_131 : Cond.methodLink "GoldPlate" 340 ⟨"GoldPlate", "takingAt", "(II)I"⟩ ∈ gp_ws := gp_in5 (i := 131) rfl rfl
theorem iw_5_132 : Cond.static ⟨"GoldPlate", "takingAt", "(II)I"⟩ ∈ gp_ws := gp_in5 (i := 132) rfl rfl
theorem iw_5_133 : Cond.code ⟨"GoldPlate", "takingAt", "(II)I"⟩ prog_1_method_45_code 2 (some .int) ∈ gp_ws := gp_in5 (i := 133) rfl rfl
theorem iw_5_134 : Cond.methodLink "GoldPlate" 343 ⟨"GoldPlate$Mark", "takenFor", "(I)I"⟩ ∈ gp_ws := gp_in5 (i := 134) rfl rfl
theorem iw_5_135 : Cond.methodLink "GoldPlate" 337 ⟨"GoldPlate$Trials", "add", "(JII)I"⟩ ∈ gp_ws := gp_in5 (i := 135) rfl rfl
theorem iw_5_136 : Cond.instanceMethod ⟨"GoldPlate$Trials", "add", "(JII)I"⟩ ∈ gp_ws := gp_in5 (i := 136) rfl rfl
theorem iw_5_137 : Cond.selects "GoldPlate$Trials" ⟨"GoldPlate$Trials", "add", "(JII)I"⟩ ⟨"GoldPlate$Trials", "add", "(JII)I"⟩ ∈ gp_ws := gp_in5 (i := 137) rfl rfl
theorem iw_5_138 : Cond.code ⟨"GoldPlate$Trials", "add", "(JII)I"⟩ prog_11_method_2_code 5 (some .int) ∈ gp_ws := gp_in5 (i := 138) rfl rfl
theorem iw_5_139 : Cond.methodLink "GoldPlateLaw" 129 ⟨"GoldPlate", "agrees", "(I)I"⟩ ∈ gp_ws := gp_in5 (i := 139) rfl rfl
theorem iw_5_140 : Cond.instanceMethod ⟨"GoldPlate", "agrees", "(I)I"⟩ ∈ gp_ws := gp_in5 (i := 140) rfl rfl
theorem iw_5_141 : Cond.selects "GoldPlate" ⟨"GoldPlate", "agrees", "(I)I"⟩ ⟨"GoldPlate", "agrees", "(I)I"⟩ ∈ gp_ws := gp_in5 (i := 141) rfl rfl
theorem iw_5_142 : Cond.code ⟨"GoldPlate", "agrees", "(I)I"⟩ prog_1_method_38_code 4 (some .int) ∈ gp_ws := gp_in5 (i := 142) rfl rfl
theorem iw_5_143 : Cond.methodLink "GoldPlate" 354 ⟨"GoldPlate$Search", "cheapestPacked", "()I"⟩ ∈ gp_ws := gp_in5 (i := 143) rfl rfl
theorem iw_5_144 : Cond.instanceMethod ⟨"GoldPlate$Search", "cheapestPacked", "()I"⟩ ∈ gp_ws := gp_in5 (i := 144) rfl rfl
theorem iw_5_145 : Cond.selects "GoldPlate$Search" ⟨"GoldPlate$Search", "cheapestPacked", "()I"⟩ ⟨"GoldPlate$Search", "cheapestPacked", "()I"⟩ ∈ gp_ws := gp_in5 (i := 145) rfl rfl
theorem iw_5_146 : Cond.code ⟨"GoldPlate$Search", "cheapestPacked", "()I"⟩ prog_8_method_11_code 3 (some .int) ∈ gp_ws := gp_in5 (i := 146) rfl rfl
theorem iw_5_147 : Cond.methodLink "GoldPlateLaw" 133 ⟨"GoldPlate", "ours", "(I)I"⟩ ∈ gp_ws := gp_in5 (i := 147) rfl rfl
theorem iw_5_148 : Cond.instanceMethod ⟨"GoldPlate", "ours", "(I)I"⟩ ∈ gp_ws := gp_in5 (i := 148) rfl rfl
theorem iw_5_149 : Cond.selects "GoldPlate" ⟨"GoldPlate", "ours", "(I)I"⟩ ⟨"GoldPlate", "ours", "(I)I"⟩ ∈ gp_ws := gp_in5 (i := 149) rfl rfl
theorem iw_5_150 : Cond.code ⟨"GoldPlate", "ours", "(I)I"⟩ prog_1_method_39_code 4 (some .int) ∈ gp_ws := gp_in5 (i := 150) rfl rfl
theorem iw_5_151 : Cond.methodLink "GoldPlate" 360 ⟨"GoldPlate$Trials", "rightPlaces", "(JI)I"⟩ ∈ gp_ws := gp_in5 (i := 151) rfl rfl
theorem iw_5_152 : Cond.instanceMethod ⟨"GoldPlate$Trials", "rightPlaces", "(JI)I"⟩ ∈ gp_ws := gp_in5 (i := 152) rfl rfl
theorem iw_5_153 : Cond.selects "GoldPlate$Trials" ⟨"GoldPlate$Trials", "rightPlaces", "(JI)I"⟩ ⟨"GoldPlate$Trials", "rightPlaces", "(JI)I"⟩ ∈ gp_ws := gp_in5 (i := 153) rfl rfl
theorem iw_5_154 : Cond.code ⟨"GoldPlate$Trials", "rightPlaces", "(JI)I"⟩ prog_11_method_3_code 7 (some .int) ∈ gp_ws := gp_in5 (i := 154) rfl rfl
theorem iw_5_156 : Cond.static ⟨"GoldPlate", "placesTakenRight", "(II)I"⟩ ∈ gp_ws := gp_in5 (i := 156) rfl rfl
theorem iw_5_157 : Cond.code ⟨"GoldPlate", "placesTakenRight", "(II)I"⟩ prog_1_method_46_code 4 (some .int) ∈ gp_ws := gp_in5 (i := 157) rfl rfl
theorem iw_5_158 : Cond.methodLink "GoldPlate" 363 ⟨"GoldPlate", "placesTakenRight", "(II)I"⟩ ∈ gp_ws := gp_in5 (i := 158) rfl rfl
theorem iw_5_159 : Cond.methodLink "GoldPlate" 366 ⟨"GoldPlate", "marksAtPlaces", "(I)I"⟩ ∈ gp_ws := gp_in5 (i := 159) rfl rfl
theorem iw_5_161 : Cond.instanceMethod ⟨"GoldPlate", "marksAtPlaces", "(I)I"⟩ ∈ gp_ws := gp_in5 (i := 161) rfl rfl
theorem iw_5_162 : Cond.code ⟨"GoldPlate", "marksAtPlaces", "(I)I"⟩ prog_1_method_40_code 4 (some .int) ∈ gp_ws := gp_in5 (i := 162) rfl rfl
theorem iw_5_163 : Cond.methodLink "GoldPlateLaw" 137 ⟨"GoldPlate", "look", "(I)I"⟩ ∈ gp_ws := gp_in5 (i := 163) rfl rfl
theorem iw_5_164 : Cond.instanceMethod ⟨"GoldPlate", "look", "(I)I"⟩ ∈ gp_ws := gp_in5 (i := 164) rfl rfl
theorem iw_5_165 : Cond.selects "GoldPlate" ⟨"GoldPlate", "look", "(I)I"⟩ ⟨"GoldPlate", "look", "(I)I"⟩ ∈ gp_ws := gp_in5 (i := 165) rfl rfl
theorem iw_5_166 : Cond.code ⟨"GoldPlate", "look", "(I)I"⟩ prog_1_method_41_code 2 (some .int) ∈ gp_ws := gp_in5 (i := 166) rfl rfl
theorem iw_5_167 : Cond.classLink "GoldPlateLaw" 10 "GoldPlateModel" ∈ gp_ws := gp_in5 (i := 167) rfl rfl
theorem iw_5_168 : Cond.instantiable "GoldPlateModel" 70 ∈ gp_ws := gp_in5 (i := 168) rfl rfl
theorem iw_5_169 : Cond.methodLink "GoldPlateLaw" 12 ⟨"GoldPlateModel", "<init>", "()V"⟩ ∈ gp_ws := gp_in5 (i := 169) rfl rfl
theorem iw_5_170 : Cond.instanceMethod ⟨"GoldPlateModel", "<init>", "()V"⟩ ∈ gp_ws := gp_in5 (i := 170) rfl rfl
theorem iw_5_171 : Cond.code ⟨"GoldPlateModel", "<init>", "()V"⟩ prog_14_method_1_code 1 none ∈ gp_ws := gp_in5 (i := 171) rfl rfl
theorem iw_5_172 : Cond.methodLink "GoldPlateModel" 1 ⟨"java/lang/Object", "<init>", "()V"⟩ ∈ gp_ws := gp_in5 (i := 172) rfl rfl
theorem iw_5_173 : Cond.fieldLink "GoldPlateModel" 153 "GoldPlateModel" "marks" "I" ∈ gp_ws := gp_in5 (i := 173) rfl rfl
theorem iw_5_174 : Cond.fieldLink "GoldPlateModel" 164 "GoldPlateModel" "year" "I" ∈ gp_ws := gp_in5 (i := 174) rfl rfl
theorem iw_5_175 : Cond.fieldLink "GoldPlateModel" 182 "GoldPlateModel" "messageLong" "I" ∈ gp_ws := gp_in5 (i := 175) rfl rfl
theorem iw_5_176 : Cond.fieldLink "GoldPlateModel" 7 "GoldPlateModel" "kindOf" "[I" ∈ gp_ws := gp_in5 (i := 176) rfl rfl
theorem iw_5_177 : Cond.fieldLink "GoldPlateModel" 13 "GoldPlateModel" "thingOf" "[I" ∈ gp_ws := gp_in5 (i := 177) rfl rfl
theorem iw_5_178 : Cond.fieldLink "GoldPlateModel" 16 "GoldPlateModel" "costOf" "[I" ∈ gp_ws := gp_in5 (i := 178) rfl rfl
theorem iw_5_179 : Cond.fieldLink "GoldPlateModel" 19 "GoldPlateModel" "depthOf" "[I" ∈ gp_ws := gp_in5 (i := 179) rfl rfl
theorem iw_5_180 : Cond.fieldLink "GoldPlateModel" 22 "GoldPlateModel" "sensesOf" "[I" ∈ gp_ws := gp_in5 (i := 180) rfl rfl
theorem iw_5_181 : Cond.fieldLink "GoldPlateModel" 25 "GoldPlateModel" "needsOf" "[I" ∈ gp_ws := gp_in5 (i := 181) rfl rfl
theorem iw_5_182 : Cond.fieldLink "GoldPlateModel" 28 "GoldPlateModel" "knowsOf" "[I" ∈ gp_ws := gp_in5 (i := 182) rfl rfl
theorem iw_5_183 : Cond.fieldLink "GoldPlateModel" 31 "GoldPlateModel" "other" "[I" ∈ gp_ws := gp_in5 (i := 183) rfl rfl
theorem iw_5_184 : Cond.fieldLink "GoldPlateModel" 34 "GoldPlateModel" "hard" "[I" ∈ gp_ws := gp_in5 (i := 184) rfl rfl
theorem iw_5_185 : Cond.fieldLink "GoldPlateModel" 37 "GoldPlateModel" "message" "[I" ∈ gp_ws := gp_in5 (i := 185) rfl rfl
theorem iw_5_186 : Cond.fieldLink "GoldPlateModel" 40 "GoldPlateModel" "deeper" "I" ∈ gp_ws := gp_in5 (i := 186) rfl rfl
theorem iw_5_187 : Cond.fieldLink "GoldPlateModel" 44 "GoldPlateModel" "chains" "[I" ∈ gp_ws := gp_in5 (i := 187) rfl rfl
theorem iw_5_188 : Cond.fieldLink "GoldPlateModel" 47 "GoldPlateModel" "sensesHad" "[I" ∈ gp_ws := gp_in5 (i := 188) rfl rfl
theorem iw_5_189 : Cond.fieldLink "GoldPlateModel" 50 "GoldPlateModel" "factsHad" "[I" ∈ gp_ws := gp_in5 (i := 189) rfl rfl
theorem iw_5_190 : Cond.fieldLink "GoldPlateModel" 53 "GoldPlateModel" "hand" "[I" ∈ gp_ws := gp_in5 (i := 190) rfl rfl
theorem iw_5_191 : Cond.fieldLink "GoldPlateModel" 56 "GoldPlateModel" "priceMany" "[I" ∈ gp_ws := gp_in5 (i := 191) rfl rfl
theorem iw_5_192 : Cond.fieldLink "GoldPlateModel" 59 "GoldPlateModel" "lineMany" "[I" ∈ gp_ws := gp_in5 (i := 192) rfl rfl
theorem iw_5_193 : Cond.fieldLink "GoldPlateModel" 62 "GoldPlateModel" "tryFrom" "[I" ∈ gp_ws := gp_in5 (i := 193) rfl rfl
theorem iw_5_194 : Cond.fieldLink "GoldPlateModel" 65 "GoldPlateModel" "tryTo" "[I" ∈ gp_ws := gp_in5 (i := 194) rfl rfl
theorem iw_5_195 : Cond.fieldLink "GoldPlateModel" 68 "GoldPlateModel" "priceFrom" "[I" ∈ gp_ws := gp_in5 (i := 195) rfl rfl
theorem iw_5_196 : Cond.fieldLink "GoldPlateModel" 71 "GoldPlateModel" "priceTo" "[I" ∈ gp_ws := gp_in5 (i := 196) rfl rfl
theorem iw_5_197 : Cond.fieldLink "GoldPlateModel" 74 "GoldPlateModel" "whenTo" "[I" ∈ gp_ws := gp_in5 (i := 197) rfl rfl
theorem iw_5_198 : Cond.fieldLink "GoldPlateModel" 77 "GoldPlateModel" "step" "[I" ∈ gp_ws := gp_in5 (i := 198) rfl rfl
theorem iw_5_199 : Cond.fieldLink "GoldPlateModel" 80 "GoldPlateModel" "tape" "[I" ∈ gp_ws := gp_in5 (i := 199) rfl rfl
theorem iw_5_200 : Cond.fieldLink "GoldPlateModel" 83 "GoldPlateModel" "pile" "[I" ∈ gp_ws := gp_in5 (i := 200) rfl rfl
theorem iw_5_201 : Cond.fieldLink "GoldPlateModel" 86 "GoldPlateModel" "facts" "[I" ∈ gp_ws := gp_in5 (i := 201) rfl rfl
theorem iw_5_202 : Cond.fieldLink "GoldPlateModel" 89 "GoldPlateModel" "hasTwin" "[Z" ∈ gp_ws := gp_in5 (i := 202) rfl rfl
theorem iw_5_203 : Cond.fieldLink "GoldPlateModel" 93 "GoldPlateModel" "hasTry" "[Z" ∈ gp_ws := gp_in5 (i := 203) rfl rfl
theorem iw_5_204 : Cond.fieldLink "GoldPlateModel" 283 "GoldPlateModel" "steps" "I" ∈ gp_ws := gp_in5 (i := 204) rfl rfl
theorem iw_5_205 : Cond.fieldLink "GoldPlateModel" 185 "GoldPlateModel" "taped" "I" ∈ gp_ws := gp_in5 (i := 205) rfl rfl
theorem iw_5_206 : Cond.fieldLink "GoldPlateModel" 188 "GoldPlateModel" "at" "I" ∈ gp_ws := gp_in5 (i := 206) rfl rfl
theorem iw_5_207 : Cond.fieldLink "GoldPlateModel" 256 "GoldPlateModel" "token" "I" ∈ gp_ws := gp_in5 (i := 207) rfl rfl
theorem iw_5_208 : Cond.fieldLink "GoldPlateModel" 191 "GoldPlateModel" "tokenAt" "I" ∈ gp_ws := gp_in5 (i := 208) rfl rfl
theorem iw_5_209 : Cond.fieldLink "GoldPlateModel" 268 "GoldPlateModel" "value" "I" ∈ gp_ws := gp_in5 (i := 209) rfl rfl
theorem iw_5_210 : Cond.fieldLink "GoldPlateModel" 271 "GoldPlateModel" "wrong" "I" ∈ gp_ws := gp_in5 (i := 210) rfl rfl
theorem iw_5_211 : Cond.fieldLink "GoldPlateModel" 274 "GoldPlateModel" "wrongAt" "I" ∈ gp_ws := gp_in5 (i := 211) rfl rfl
theorem iw_5_212 : Cond.fieldLink "GoldPlateModel" 327 "GoldPlateModel" "faultKind" "I" ∈ gp_ws := gp_in5 (i := 212) rfl rfl
theorem iw_5_213 : Cond.fieldLink "GoldPlateModel" 286 "GoldPlateModel" "depth" "I" ∈ gp_ws := gp_in5 (i := 213) rfl rfl
theorem iw_5_214 : Cond.fieldLink "GoldPlateModel" 96 "GoldPlateModel" "faultPlace" "I" ∈ gp_ws := gp_in5 (i := 214) rfl rfl
theorem iw_5_215 : Cond.fieldLink "GoldPlateModel" 99 "GoldPlateModel" "priceOf" "[I" ∈ gp_ws := gp_in5 (i := 215) rfl rfl
theorem iw_5_216 : Cond.fieldLink "GoldPlateModel" 102 "GoldPlateModel" "taking" "[I" ∈ gp_ws := gp_in5 (i := 216) rfl rfl
theorem iw_5_217 : Cond.fieldLink "GoldPlateModel" 105 "GoldPlateModel" "cheapest" "[I" ∈ gp_ws := gp_in5 (i := 217) rfl rfl
theorem iw_5_218 : Cond.fieldLink "GoldPlateModel" 343 "GoldPlateModel" "reader" "I" ∈ gp_ws := gp_in5 (i := 218) rfl rfl
theorem iw_5_219 : Cond.fieldLink "GoldPlateModel" 355 "GoldPlateModel" "bound" "I" ∈ gp_ws := gp_in5 (i := 219) rfl rfl
theorem iw_5_220 : Cond.fieldLink "GoldPlateModel" 358 "GoldPlateModel" "found" "I" ∈ gp_ws := gp_in5 (i := 220) rfl rfl
theorem iw_5_221 : Cond.fieldLink "GoldPlateModel" 361 "GoldPlateModel" "leastPrice" "I" ∈ gp_ws := gp_in5 (i := 221) rfl rfl
theorem iw_5_222 : Cond.fieldLink "GoldPlateModel" 387 "GoldPlateModel" "bitMany" "I" ∈ gp_ws := gp_in5 (i := 222) rfl rfl
theorem iw_5_223 : Cond.fieldLink "GoldPlateModel" 390 "GoldPlateModel" "gridMany" "I" ∈ gp_ws := gp_in5 (i := 223) rfl rfl
theorem iw_5_224 : Cond.fieldLink "GoldPlateModel" 108 "GoldPlateModel" "bit" "[I" ∈ gp_ws := gp_in5 (i := 224) rfl rfl
theorem iw_5_225 : Cond.fieldLink "GoldPlateModel" 111 "GoldPlateModel" "gridBit" "[I" ∈ gp_ws := gp_in5 (i := 225) rfl rfl
theorem iw_5_226 : Cond.fieldLink "GoldPlateModel" 114 "GoldPlateModel" "widths" "[I" ∈ gp_ws := gp_in5 (i := 226) rfl rfl
theorem iw_5_227 : Cond.fieldLink "GoldPlateModel" 117 "GoldPlateModel" "tryOf" "[I" ∈ gp_ws := gp_in5 (i := 227) rfl rfl
theorem iw_5_228 : Cond.fieldLink "GoldPlateModel" 402 "GoldPlateModel" "widthMany" "I" ∈ gp_ws := gp_in5 (i := 228) rfl rfl
theorem iw_5_229 : Cond.fieldLink "GoldPlateModel" 414 "GoldPlateModel" "beats" "I" ∈ gp_ws := gp_in5 (i := 229) rfl rfl
theorem iw_5_230 : Cond.fieldLink "GoldPlateModel" 120 "GoldPlateModel" "period" "[I" ∈ gp_ws := gp_in5 (i := 230) rfl rfl
theorem iw_5_231 : Cond.fieldLink "GoldPlateModel" 123 "GoldPlateModel" "slower" "[I" ∈ gp_ws := gp_in5 (i := 231) rfl rfl
theorem iw_5_232 : Cond.fieldLink "GoldPlateModel" 126 "GoldPlateModel" "beatX" "[I" ∈ gp_ws := gp_in5 (i := 232) rfl rfl
theorem iw_5_233 : Cond.fieldLink "GoldPlateModel" 129 "GoldPlateModel" "beatY" "[I" ∈ gp_ws := gp_in5 (i := 233) rfl rfl
theorem iw_5_234 : Cond.fieldLink "GoldPlateModel" 132 "GoldPlateModel" "foundFrom" "[I" ∈ gp_ws := gp_in5 (i := 234) rfl rfl
theorem iw_5_235 : Cond.fieldLink "GoldPlateModel" 135 "GoldPlateModel" "foundTo" "[I" ∈ gp_ws := gp_in5 (i := 235) rfl rfl
theorem iw_5_236 : Cond.fieldLink "GoldPlateModel" 138 "GoldPlateModel" "farOf" "[I" ∈ gp_ws := gp_in5 (i := 236) rfl rfl
theorem iw_5_237 : Cond.fieldLink "GoldPlateModel" 447 "GoldPlateModel" "trials" "I" ∈ gp_ws := gp_in5 (i := 237) rfl rfl
theorem iw_5_238 : Cond.fieldLink "GoldPlateModel" 141 "GoldPlateModel" "trialLong" "[I" ∈ gp_ws := gp_in5 (i := 238) rfl rfl
theorem iw_5_239 : Cond.fieldLink "GoldPlateModel" 144 "GoldPlateModel" "trialMark" "[I" ∈ gp_ws := gp_in5 (i := 239) rfl rfl
theorem iw_6_0 : Cond.fieldLink "GoldPlateModel" 147 "GoldPlateModel" "trialTaking" "[I" ∈ gp_ws := gp_in6 (i := 0) rfl rfl
theorem iw_6_1 : Cond.fieldLink "GoldPlateModel" 150 "GoldPlateModel" "kept" "[I" ∈ gp_ws := gp_in6 (i := 1) rfl rfl
theorem iw_6_2 : Cond.lays "GoldPlateModel" "GoldPlateModel" "marks" "I" ∈ gp_ws := gp_in6 (i := 2) rfl rfl
theorem iw_6_4 : Cond.lays "GoldPlateModel" "GoldPlateModel" "year" "I" ∈ gp_ws := gp_in6 (i := 4) rfl rfl
theorem iw_6_6 : Cond.lays "GoldPlateModel" "GoldPlateModel" "messageLong" "I" ∈ gp_ws := gp_in6 (i := 6) rfl rfl
theorem iw_6_8 : Cond.laysFinal "GoldPlateModel" "GoldPlateModel" "kindOf" "[I" ∈ gp_ws := gp_in6 (i := 8) rfl rfl
theorem iw_6_10 : Cond.laysFinal "GoldPlateModel" "GoldPlateModel" "thingOf" "[I" ∈ gp_ws := gp_in6 (i := 10) rfl rfl
theorem iw_6_12 : Cond.laysFinal "GoldPlateModel" "GoldPlateModel" "costOf" "[I" ∈ gp_ws := gp_in6 (i := 12) rfl rfl
theorem iw_6_14 : Cond.laysFinal "GoldPlateModel" "GoldPlateModel" "depthOf" "[I" ∈ gp_ws := gp_in6 (i := 14) rfl rfl
theorem iw_6_16 : Cond.laysFinal "GoldPlateModel" "GoldPlateModel" "sensesOf" "[I" ∈ gp_ws := gp_in6 (i := 16) rfl rfl
theorem iw_6_18 : Cond.laysFinal "GoldPlateModel" "GoldPlateModel" "needsOf" "[I" ∈ gp_ws := gp_in6 (i := 18) rfl rfl
theorem iw_6_20 : Cond.laysFinal "GoldPlateModel" "GoldPlateModel" "knowsOf" "[I" ∈ gp_ws := gp_in6 (i := 20) rfl rfl
theorem iw_6_22 : Cond.laysFinal "GoldPlateModel" "GoldPlateModel" "other" "[I" ∈ gp_ws := gp_in6 (i := 22) rfl rfl
theorem iw_6_24 : Cond.laysFinal "GoldPlateModel" "GoldPlateModel" "hard" "[I" ∈ gp_ws := gp_in6 (i := 24) rfl rfl
theorem iw_6_26 : Cond.laysFinal "GoldPlateModel" "GoldPlateModel" "message" "[I" ∈ gp_ws := gp_in6 (i := 26) rfl rfl
theorem iw_6_28 : Cond.lays "GoldPlateModel" "GoldPlateModel" "deeper" "I" ∈ gp_ws := gp_in6 (i := 28) rfl rfl
theorem iw_6_30 : Cond.lays "GoldPlateModel" "GoldPlateModel" "when" "I" ∈ gp_ws := gp_in6 (i := 30) rfl rfl
theorem iw_6_32 : Cond.laysFinal "GoldPlateModel" "GoldPlateModel" "chains" "[I" ∈ gp_ws := gp_in6 (i := 32) rfl rfl
theorem iw_6_34 : Cond.laysFinal "GoldPlateModel" "GoldPlateModel" "sensesHad" "[I" ∈ gp_ws := gp_in6 (i := 34) rfl rfl
theorem iw_6_36 : Cond.laysFinal "GoldPlateModel" "GoldPlateModel" "factsHad" "[I" ∈ gp_ws := gp_in6 (i := 36) rfl rfl
theorem iw_6_38 : Cond.laysFinal "GoldPlateModel" "GoldPlateModel" "hand" "[I" ∈ gp_ws := gp_in6 (i := 38) rfl rfl
theorem iw_6_40 : Cond.laysFinal "GoldPlateModel" "GoldPlateModel" "priceMany" "[I" ∈ gp_ws := gp_in6 (i := 40) rfl rfl
theorem iw_6_42 : Cond.laysFinal "GoldPlateModel" "GoldPlateModel" "lineMany" "[I" ∈ gp_ws := gp_in6 (i := 42) rfl rfl
theorem iw_6_44 : Cond.laysFinal "GoldPlateModel" "GoldPlateModel" "tryFrom" "[I" ∈ gp_ws := gp_in6 (i := 44) rfl rfl
theorem iw_6_46 : Cond.laysFinal "GoldPlateModel" "GoldPlateModel" "tryTo" "[I" ∈ gp_ws := gp_in6 (i := 46) rfl rfl
theorem iw_6_48 : Cond.laysFinal "GoldPlateModel" "GoldPlateModel" "priceFrom" "[I" ∈ gp_ws := gp_in6 (i := 48) rfl rfl
theorem iw_6_50 : Cond.laysFinal "GoldPlateModel" "GoldPlateModel" "priceTo" "[I" ∈ gp_ws := gp_in6 (i := 50) rfl rfl
theorem iw_6_52 : Cond.laysFinal "GoldPlateModel" "GoldPlateModel" "whenTo" "[I" ∈ gp_ws := gp_in6 (i := 52) rfl rfl
theorem iw_6_54 : Cond.laysFinal "GoldPlateModel" "GoldPlateModel" "step" "[I" ∈ gp_ws := gp_in6 (i := 54) rfl rfl
theorem iw_6_56 : Cond.laysFinal "GoldPlateModel" "GoldPlateModel" "tape" "[I" ∈ gp_ws := gp_in6 (i := 56) rfl rfl
theorem iw_6_58 : Cond.laysFinal "GoldPlateModel" "GoldPlateModel" "pile" "[I" ∈ gp_ws := gp_in6 (i := 58) rfl rfl
theorem iw_6_60 : Cond.laysFinal "GoldPlateModel" "GoldPlateModel" "facts" "[I" ∈ gp_ws := gp_in6 (i := 60) rfl rfl
theorem iw_6_62 : Cond.laysFinal "GoldPlateModel" "GoldPlateModel" "hasTwin" "[Z" ∈ gp_ws := gp_in6 (i := 62) rfl rfl
theorem iw_6_64 : Cond.laysFinal "GoldPlateModel" "GoldPlateModel" "hasTry" "[Z" ∈ gp_ws := gp_in6 (i := 64) rfl rfl
theorem iw_6_66 : Cond.lays "GoldPlateModel" "GoldPlateModel" "steps" "I" ∈ gp_ws := gp_in6 (i := 66) rfl rfl
theorem iw_6_68 : Cond.lays "GoldPlateModel" "GoldPlateModel" "taped" "I" ∈ gp_ws := gp_in6 (i := 68) rfl rfl
theorem iw_6_70 : Cond.lays "GoldPlateModel" "GoldPlateModel" "at" "I" ∈ gp_ws := gp_in6 (i := 70) rfl rfl
theorem iw_6_72 : Cond.lays "GoldPlateModel" "GoldPlateModel" "token" "I" ∈ gp_ws := gp_in6 (i := 72) rfl rfl
theorem iw_6_74 : Cond.lays "GoldPlateModel" "GoldPlateModel" "tokenAt" "I" ∈ gp_ws := gp_in6 (i := 74) rfl rfl
theorem iw_6_76 : Cond.lays "GoldPlateModel" "GoldPlateModel" "value" "I" ∈ gp_ws := gp_in6 (i := 76) rfl rfl
theorem iw_6_78 : Cond.lays "GoldPlateModel" "GoldPlateModel" "wrong" "I" ∈ gp_ws := gp_in6 (i := 78) rfl rfl
theorem iw_6_80 : Cond.lays "GoldPlateModel" "GoldPlateModel" "wrongAt" "I" ∈ gp_ws := gp_in6 (i := 80) rfl rfl
theorem iw_6_82 : Cond.lays "GoldPlateModel" "GoldPlateModel" "faultKind" "I" ∈ gp_ws := gp_in6 (i := 82) rfl rfl
theorem iw_6_84 : Cond.lays "GoldPlateModel" "GoldPlateModel" "depth" "I" ∈ gp_ws := gp_in6 (i := 84) rfl rfl
theorem iw_6_86 : Cond.lays "GoldPlateModel" "GoldPlateModel" "faultPlace" "I" ∈ gp_ws := gp_in6 (i := 86) rfl rfl
theorem iw_6_88 : Cond.laysFinal "GoldPlateModel" "GoldPlateModel" "priceOf" "[I" ∈ gp_ws := gp_in6 (i := 88) rfl rfl
theorem iw_6_90 : Cond.laysFinal "GoldPlateModel" "GoldPlateModel" "taking" "[I" ∈ gp_ws := gp_in6 (i := 90) rfl rfl
theorem iw_6_92 : Cond.laysFinal "GoldPlateModel" "GoldPlateModel" "cheapest" "[I" ∈ gp_ws := gp_in6 (i := 92) rfl rfl
theorem iw_6_94 : Cond.lays "GoldPlateModel" "GoldPlateModel" "reader" "I" ∈ gp_ws := gp_in6 (i := 94) rfl rfl
theorem iw_6_96 : Cond.lays "GoldPlateModel" "GoldPlateModel" "bound" "I" ∈ gp_ws := gp_in6 (i := 96) rfl rfl
theorem iw_6_98 : Cond.lays "GoldPlateModel" "GoldPlateModel" "found" "I" ∈ gp_ws := gp_in6 (i := 98) rfl rfl
theorem iw_6_100 : Cond.lays "GoldPlateModel" "GoldPlateModel" "leastPrice" "I" ∈ gp_ws := gp_in6 (i := 100) rfl rfl
theorem iw_6_102 : Cond.lays "GoldPlateModel" "GoldPlateModel" "bitMany" "I" ∈ gp_ws := gp_in6 (i := 102) rfl rfl
theorem iw_6_104 : Cond.lays "GoldPlateModel" "GoldPlateModel" "gridMany" "I" ∈ gp_ws := gp_in6 (i := 104) rfl rfl
theorem iw_6_106 : Cond.laysFinal "GoldPlateModel" "GoldPlateModel" "bit" "[I" ∈ gp_ws := gp_in6 (i := 106) rfl rfl
theorem iw_6_108 : Cond.laysFinal "GoldPlateModel" "GoldPlateModel" "gridBit" "[I" ∈ gp_ws := gp_in6 (i := 108) rfl rfl
theorem iw_6_110 : Cond.laysFinal "GoldPlateModel" "GoldPlateModel" "widths" "[I" ∈ gp_ws := gp_in6 (i := 110) rfl rfl
theorem iw_6_112 : Cond.laysFinal "GoldPlateModel" "GoldPlateModel" "tryOf" "[I" ∈ gp_ws := gp_in6 (i := 112) rfl rfl
theorem iw_6_114 : Cond.lays "GoldPlateModel" "GoldPlateModel" "widthMany" "I" ∈ gp_ws := gp_in6 (i := 114) rfl rfl
theorem iw_6_116 : Cond.lays "GoldPlateModel" "GoldPlateModel" "beats" "I" ∈ gp_ws := gp_in6 (i := 116) rfl rfl
theorem iw_6_118 : Cond.laysFinal "GoldPlateModel" "GoldPlateModel" "period" "[I" ∈ gp_ws := gp_in6 (i := 118) rfl rfl
theorem iw_6_120 : Cond.laysFinal "GoldPlateModel" "GoldPlateModel" "slower" "[I" ∈ gp_ws := gp_in6 (i := 120) rfl rfl
theorem iw_6_122 : Cond.laysFinal "GoldPlateModel" "GoldPlateModel" "beatX" "[I" ∈ gp_ws := gp_in6 (i := 122) rfl rfl
theorem iw_6_124 : Cond.laysFinal "GoldPlateModel" "GoldPlateModel" "beatY" "[I" ∈ gp_ws := gp_in6 (i := 124) rfl rfl
theorem iw_6_126 : Cond.laysFinal "GoldPlateModel" "GoldPlateModel" "foundFrom" "[I" ∈ gp_ws := gp_in6 (i := 126) rfl rfl
theorem iw_6_128 : Cond.laysFinal "GoldPlateModel" "GoldPlateModel" "foundTo" "[I" ∈ gp_ws := gp_in6 (i := 128) rfl rfl
theorem iw_6_130 : Cond.laysFinal "GoldPlateModel" "GoldPlateModel" "farOf" "[I" ∈ gp_ws := gp_in6 (i := 130) rfl rfl
theorem iw_6_132 : Cond.lays "GoldPlateModel" "GoldPlateModel" "trials" "I" ∈ gp_ws := gp_in6 (i := 132) rfl rfl
theorem iw_6_134 : Cond.laysFinal "GoldPlateModel" "GoldPlateModel" "trialLong" "[I" ∈ gp_ws := gp_in6 (i := 134) rfl rfl
theorem iw_6_136 : Cond.laysFinal "GoldPlateModel" "GoldPlateModel" "trialMark" "[I" ∈ gp_ws := gp_in6 (i := 136) rfl rfl
theorem iw_6_138 : Cond.laysFinal "GoldPlateModel" "GoldPlateModel" "trialTaking" "[I" ∈ gp_ws := gp_in6 (i := 138) rfl rfl
theorem iw_6_140 : Cond.laysFinal "GoldPlateModel" "GoldPlateModel" "kept" "[I" ∈ gp_ws := gp_in6 (i := 140) rfl rfl
theorem iw_6_143 : Cond.arrayClass .boolean ∈ gp_ws := gp_in6 (i := 143) rfl rfl
theorem iw_6_144 : Cond.methodLink "GoldPlateLaw" 17 ⟨"GoldPlateModel", "mark", "(IIIII)I"⟩ ∈ gp_ws := gp_in6 (i := 144) rfl rfl
theorem iw_6_145 : Cond.instanceMethod ⟨"GoldPlateModel", "mark", "(IIIII)I"⟩ ∈ gp_ws := gp_in6 (i := 145) rfl rfl
theorem iw_6_146 : Cond.selects "GoldPlateModel" ⟨"GoldPlateModel", "mark", "(IIIII)I"⟩ ⟨"GoldPlateModel", "mark", "(IIIII)I"⟩ ∈ gp_ws := gp_in6 (i := 146) rfl rfl
theorem iw_6_147 : Cond.code ⟨"GoldPlateModel", "mark", "(IIIII)I"⟩ prog_14_method_5_code 7 (some .int) ∈ gp_ws := gp_in6 (i := 147) rfl rfl
theorem iw_6_148 : Cond.methodLink "GoldPlateModel" 156 ⟨"GoldPlateModel", "isIn", "(III)Z"⟩ ∈ gp_ws := gp_in6 (i := 148) rfl rfl
theorem iw_6_149 : Cond.static ⟨"GoldPlateModel", "isIn", "(III)Z"⟩ ∈ gp_ws := gp_in6 (i := 149) rfl rfl
theorem iw_6_150 : Cond.code ⟨"GoldPlateModel", "isIn", "(III)Z"⟩ prog_14_method_2_code 3 (some .boolean) ∈ gp_ws := gp_in6 (i := 150) rfl rfl
theorem iw_6_151 : Cond.methodLink "GoldPlateLaw" 22 ⟨"GoldPlateModel", "tell", "(III)Z"⟩ ∈ gp_ws := gp_in6 (i := 151) rfl rfl
theorem iw_6_152 : Cond.instanceMethod ⟨"GoldPlateModel", "tell", "(III)Z"⟩ ∈ gp_ws := gp_in6 (i := 152) rfl rfl
theorem iw_6_153 : Cond.selects "GoldPlateModel" ⟨"GoldPlateModel", "tell", "(III)Z"⟩ ⟨"GoldPlateModel", "tell", "(III)Z"⟩ ∈ gp_ws := gp_in6 (i := 153) rfl rfl
theorem iw_6_154 : Cond.code ⟨"GoldPlateModel", "tell", "(III)Z"⟩ prog_14_method_6_code 4 (some .boolean) ∈ gp_ws := gp_in6 (i := 154) rfl rfl
theorem iw_6_155 : Cond.methodLink "GoldPlateModel" 160 ⟨"GoldPlateModel", "isMark", "(I)Z"⟩ ∈ gp_ws := gp_in6 (i := 155) rfl rfl
theorem iw_6_157 : Cond.instanceMethod ⟨"GoldPlateModel", "isMark", "(I)Z"⟩ ∈ gp_ws := gp_in6 (i := 157) rfl rfl
theorem iw_6_158 : Cond.code ⟨"GoldPlateModel", "isMark", "(I)Z"⟩ prog_14_method_4_code 2 (some .boolean) ∈ gp_ws := gp_in6 (i := 158) rfl rfl
theorem iw_6_159 : Cond.methodLink "GoldPlateLaw" 27 ⟨"GoldPlateModel", "hard", "(II)Z"⟩ ∈ gp_ws := gp_in6 (i := 159) rfl rfl
theorem iw_6_160 : Cond.instanceMethod ⟨"GoldPlateModel", "hard", "(II)Z"⟩ ∈ gp_ws := gp_in6 (i := 160) rfl rfl
theorem iw_6_161 : Cond.selects "GoldPlateModel" ⟨"GoldPlateModel", "hard", "(II)Z"⟩ ⟨"GoldPlateModel", "hard", "(II)Z"⟩ ∈ gp_ws := gp_in6 (i := 161) rfl rfl
theorem iw_6_162 : Cond.code ⟨"GoldPlateModel", "hard", "(II)Z"⟩ prog_14_method_7_code 3 (some .boolean) ∈ gp_ws := gp_in6 (i := 162) rfl rfl
theorem iw_6_163 : Cond.methodLink "GoldPlateLaw" 32 ⟨"GoldPlateModel", "year", "(I)Z"⟩ ∈ gp_ws := gp_in6 (i := 163) rfl rfl
theorem iw_6_164 : Cond.instanceMethod ⟨"GoldPlateModel", "year", "(I)Z"⟩ ∈ gp_ws := gp_in6 (i := 164) rfl rfl
theorem iw_6_165 : Cond.selects "GoldPlateModel" ⟨"GoldPlateModel", "year", "(I)Z"⟩ ⟨"GoldPlateModel", "year", "(I)Z"⟩ ∈ gp_ws := gp_in6 (i := 165) rfl rfl
theorem iw_6_166 : Cond.code ⟨"GoldPlateModel", "year", "(I)Z"⟩ prog_14_method_8_code 2 (some .boolean) ∈ gp_ws := gp_in6 (i := 166) rfl rfl
theorem iw_6_167 : Cond.methodLink "GoldPlateLaw" 37 ⟨"GoldPlateModel", "of", "(II)I"⟩ ∈ gp_ws := gp_in6 (i := 167) rfl rfl
theorem iw_6_168 : Cond.instanceMethod ⟨"GoldPlateModel", "of", "(II)I"⟩ ∈ gp_ws := gp_in6 (i := 168) rfl rfl
theorem iw_6_169 : Cond.selects "GoldPlateModel" ⟨"GoldPlateModel", "of", "(II)I"⟩ ⟨"GoldPlateModel", "of", "(II)I"⟩ ∈ gp_ws := gp_in6 (i := 169) rfl rfl
theorem iw_6_170 : Cond.code ⟨"GoldPlateModel", "of", "(II)I"⟩ prog_14_method_13_code 4 (some .int) ∈ gp_ws := gp_in6 (i := 170) rfl rfl
theorem iw_6_171 : Cond.constant "GoldPlateModel" 175 (-1000000) ∈ gp_ws := gp_in6 (i := 171) rfl rfl
theorem iw_6_172 : Cond.methodLink "GoldPlateModel" 176 ⟨"GoldPlateModel", "chain", "(I)I"⟩ ∈ gp_ws := gp_in6 (i := 172) rfl rfl
theorem iw_6_174 : Cond.instanceMethod ⟨"GoldPlateModel", "chain", "(I)I"⟩ ∈ gp_ws := gp_in6 (i := 174) rfl rfl
theorem iw_6_175 : Cond.code ⟨"GoldPlateModel", "chain", "(I)I"⟩ prog_14_method_12_code 5 (some .int) ∈ gp_ws := gp_in6 (i := 175) rfl rfl
theorem iw_6_176 : Cond.methodLink "GoldPlateModel" 171 ⟨"GoldPlateModel", "left", "(II)I"⟩ ∈ gp_ws := gp_in6 (i := 176) rfl rfl
theorem iw_6_178 : Cond.instanceMethod ⟨"GoldPlateModel", "left", "(II)I"⟩ ∈ gp_ws := gp_in6 (i := 178) rfl rfl
theorem iw_6_179 : Cond.code ⟨"GoldPlateModel", "left", "(II)I"⟩ prog_14_method_10_code 3 (some .int) ∈ gp_ws := gp_in6 (i := 179) rfl rfl
theorem iw_6_180 : Cond.methodLink "GoldPlateModel" 167 ⟨"GoldPlateModel", "depth", "(I)I"⟩ ∈ gp_ws := gp_in6 (i := 180) rfl rfl
theorem iw_6_182 : Cond.instanceMethod ⟨"GoldPlateModel", "depth", "(I)I"⟩ ∈ gp_ws := gp_in6 (i := 182) rfl rfl
theorem iw_6_183 : Cond.code ⟨"GoldPlateModel", "depth", "(I)I"⟩ prog_14_method_9_code 3 (some .int) ∈ gp_ws := gp_in6 (i := 183) rfl rfl
theorem iw_6_184 : Cond.methodLink "GoldPlateModel" 179 ⟨"GoldPlateModel", "isWorn", "(I)Z"⟩ ∈ gp_ws := gp_in6 (i := 184) rfl rfl
theorem iw_6_186 : Cond.instanceMethod ⟨"GoldPlateModel", "isWorn", "(I)Z"⟩ ∈ gp_ws := gp_in6 (i := 186) rfl rfl
theorem iw_6_187 : Cond.code ⟨"GoldPlateModel", "isWorn", "(I)Z"⟩ prog_14_method_11_code 2 (some .boolean) ∈ gp_ws := gp_in6 (i := 187) rfl rfl
theorem iw_6_188 : Cond.methodLink "GoldPlateLaw" 42 ⟨"GoldPlateModel", "put", "(I)I"⟩ ∈ gp_ws := gp_in6 (i := 188) rfl rfl
theorem iw_6_189 : Cond.instanceMethod ⟨"GoldPlateModel", "put", "(I)I"⟩ ∈ gp_ws := gp_in6 (i := 189) rfl rfl
theorem iw_6_190 : Cond.selects "GoldPlateModel" ⟨"GoldPlateModel", "put", "(I)I"⟩ ⟨"GoldPlateModel", "put", "(I)I"⟩ ∈ gp_ws := gp_in6 (i := 190) rfl rfl
theorem iw_6_191 : Cond.code ⟨"GoldPlateModel", "put", "(I)I"⟩ prog_14_method_14_code 3 (some .int) ∈ gp_ws := gp_in6 (i := 191) rfl rfl
theorem iw_6_192 : Cond.methodLink "GoldPlateLaw" 46 ⟨"GoldPlateModel", "feed", "(IIIII)I"⟩ ∈ gp_ws := gp_in6 (i := 192) rfl rfl
theorem iw_6_193 : Cond.instanceMethod ⟨"GoldPlateModel", "feed", "(IIIII)I"⟩ ∈ gp_ws := gp_in6 (i := 193) rfl rfl
theorem iw_6_194 : Cond.selects "GoldPlateModel" ⟨"GoldPlateModel", "feed", "(IIIII)I"⟩ ⟨"GoldPlateModel", "feed", "(IIIII)I"⟩ ∈ gp_ws := gp_in6 (i := 194) rfl rfl
theorem iw_6_195 : Cond.code ⟨"GoldPlateModel", "feed", "(IIIII)I"⟩ prog_14_method_15_code 8 (some .int) ∈ gp_ws := gp_in6 (i := 195) rfl rfl
theorem iw_6_196 : Cond.methodLink "GoldPlateLaw" 50 ⟨"GoldPlateModel", "end", "(I)Z"⟩ ∈ gp_ws := gp_in6 (i := 196) rfl rfl
theorem iw_6_197 : Cond.instanceMethod ⟨"GoldPlateModel", "end", "(I)Z"⟩ ∈ gp_ws := gp_in6 (i := 197) rfl rfl
theorem iw_6_198 : Cond.selects "GoldPlateModel" ⟨"GoldPlateModel", "end", "(I)Z"⟩ ⟨"GoldPlateModel", "end", "(I)Z"⟩ ∈ gp_ws := gp_in6 (i := 198) rfl rfl
theorem iw_6_199 : Cond.code ⟨"GoldPlateModel", "end", "(I)Z"⟩ prog_14_method_16_code 2 (some .boolean) ∈ gp_ws := gp_in6 (i := 199) rfl rfl
theorem iw_6_200 : Cond.methodLink "GoldPlateLaw" 54 ⟨"GoldPlateModel", "mind", "(I)I"⟩ ∈ gp_ws := gp_in6 (i := 200) rfl rfl
theorem iw_6_201 : Cond.instanceMethod ⟨"GoldPlateModel", "mind", "(I)I"⟩ ∈ gp_ws := gp_in6 (i := 201) rfl rfl
theorem iw_6_202 : Cond.selects "GoldPlateModel" ⟨"GoldPlateModel", "mind", "(I)I"⟩ ⟨"GoldPlateModel", "mind", "(I)I"⟩ ∈ gp_ws := gp_in6 (i := 202) rfl rfl
theorem iw_6_203 : Cond.code ⟨"GoldPlateModel", "mind", "(I)I"⟩ prog_14_method_39_code 3 (some .int) ∈ gp_ws := gp_in6 (i := 203) rfl rfl
theorem iw_6_204 : Cond.methodLink "GoldPlateModel" 324 ⟨"GoldPlateModel", "isMind", "(I)Z"⟩ ∈ gp_ws := gp_in6 (i := 204) rfl rfl
theorem iw_6_206 : Cond.instanceMethod ⟨"GoldPlateModel", "isMind", "(I)Z"⟩ ∈ gp_ws := gp_in6 (i := 206) rfl rfl
theorem iw_6_207 : Cond.code ⟨"GoldPlateModel", "isMind", "(I)Z"⟩ prog_14_method_38_code 2 (some .boolean) ∈ gp_ws := gp_in6 (i := 207) rfl rfl
theorem iw_6_208 : Cond.methodLink "GoldPlateModel" 280 ⟨"GoldPlateModel", "next0", "()V"⟩ ∈ gp_ws := gp_in6 (i := 208) rfl rfl
theorem iw_6_210 : Cond.instanceMethod ⟨"GoldPlateModel", "next0", "()V"⟩ ∈ gp_ws := gp_in6 (i := 210) rfl rfl
theorem iw_6_211 : Cond.code ⟨"GoldPlateModel", "next0", "()V"⟩ prog_14_method_23_code 3 none ∈ gp_ws := gp_in6 (i := 211) rfl rfl
theorem iw_6_212 : Cond.methodLink "GoldPlateModel" 253 ⟨"GoldPlateModel", "see", "(I)I"⟩ ∈ gp_ws := gp_in6 (i := 212) rfl rfl
theorem iw_6_214 : Cond.instanceMethod ⟨"GoldPlateModel", "see", "(I)I"⟩ ∈ gp_ws := gp_in6 (i := 214) rfl rfl
theorem iw_6_215 : Cond.code ⟨"GoldPlateModel", "see", "(I)I"⟩ prog_14_method_17_code 2 (some .int) ∈ gp_ws := gp_in6 (i := 215) rfl rfl
theorem iw_6_216 : Cond.methodLink "GoldPlateModel" 259 ⟨"GoldPlateModel", "isLetter", "(I)Z"⟩ ∈ gp_ws := gp_in6 (i := 216) rfl rfl
theorem iw_6_217 : Cond.static ⟨"GoldPlateModel", "isLetter", "(I)Z"⟩ ∈ gp_ws := gp_in6 (i := 217) rfl rfl
theorem iw_6_218 : Cond.code ⟨"GoldPlateModel", "isLetter", "(I)Z"⟩ prog_14_method_18_code 1 (some .boolean) ∈ gp_ws := gp_in6 (i := 218) rfl rfl
theorem iw_6_219 : Cond.methodLink "GoldPlateModel" 262 ⟨"GoldPlateModel", "word", "()I"⟩ ∈ gp_ws := gp_in6 (i := 219) rfl rfl
theorem iw_6_221 : Cond.instanceMethod ⟨"GoldPlateModel", "word", "()I"⟩ ∈ gp_ws := gp_in6 (i := 221) rfl rfl
theorem iw_6_222 : Cond.code ⟨"GoldPlateModel", "word", "()I"⟩ prog_14_method_22_code 1 (some .int) ∈ gp_ws := gp_in6 (i := 222) rfl rfl
theorem iw_6_224 : Cond.methodLink "GoldPlateModel" 206 ⟨"GoldPlateModel", "is", "(Ljava/lang/String;)Z"⟩ ∈ gp_ws := gp_in6 (i := 224) rfl rfl
theorem iw_6_226 : Cond.instanceMethod ⟨"GoldPlateModel", "is", "(Ljava/lang/String;)Z"⟩ ∈ gp_ws := gp_in6 (i := 226) rfl rfl
theorem iw_6_227 : Cond.code ⟨"GoldPlateModel", "is", "(Ljava/lang/String;)Z"⟩ prog_14_method_20_code 4 (some .boolean) ∈ gp_ws := gp_in6 (i := 227) rfl rfl
theorem iw_6_228 : Cond.methodLink "GoldPlateModel" 194 ⟨"java/lang/String", "length", "()I"⟩ ∈ gp_ws := gp_in6 (i := 228) rfl rfl
theorem iw_6_229 : Cond.methodLink "GoldPlateModel" 200 ⟨"java/lang/String", "charAt", "(I)C"⟩ ∈ gp_ws := gp_in6 (i := 229) rfl rfl
theorem iw_6_238 : Cond.methodLink "GoldPlateModel" 250 ⟨"GoldPlateModel", "name", "()I"⟩ ∈ gp_ws := gp_in6 (i := 238) rfl rfl
theorem iw_7_0 : Cond.instanceMethod ⟨"GoldPlateModel", "name", "()I"⟩ ∈ gp_ws := gp_in7 (i := 0) rfl rfl
theorem iw_7_1 : Cond.code ⟨"GoldPlateModel", "name", "()I"⟩ prog_14_method_21_code 1 (some .int) ∈ gp_ws := gp_in7 (i := 1) rfl rfl
theorem iw_7_15 : Cond.methodLink "GoldPlateModel" 265 ⟨"GoldPlateModel", "isDigit", "(I)Z"⟩ ∈ gp_ws := gp_in7 (i := 15) rfl rfl
theorem iw_7_16 : Cond.static ⟨"GoldPlateModel", "isDigit", "(I)Z"⟩ ∈ gp_ws := gp_in7 (i := 16) rfl rfl
theorem iw_7_17 : Cond.code ⟨"GoldPlateModel", "isDigit", "(I)Z"⟩ prog_14_method_19_code 1 (some .boolean) ∈ gp_ws := gp_in7 (i := 17) rfl rfl
theorem iw_7_18 : Cond.methodLink "GoldPlateModel" 330 ⟨"GoldPlateModel", "aLine", "()Z"⟩ ∈ gp_ws := gp_in7 (i := 18) rfl rfl
theorem iw_7_20 : Cond.instanceMethod ⟨"GoldPlateModel", "aLine", "()Z"⟩ ∈ gp_ws := gp_in7 (i := 20) rfl rfl
theorem iw_7_21 : Cond.code ⟨"GoldPlateModel", "aLine", "()Z"⟩ prog_14_method_36_code 3 (some .boolean) ∈ gp_ws := gp_in7 (i := 21) rfl rfl
theorem iw_7_22 : Cond.methodLink "GoldPlateModel" 277 ⟨"GoldPlateModel", "bad", "(I)Z"⟩ ∈ gp_ws := gp_in7 (i := 22) rfl rfl
theorem iw_7_24 : Cond.instanceMethod ⟨"GoldPlateModel", "bad", "(I)Z"⟩ ∈ gp_ws := gp_in7 (i := 24) rfl rfl
theorem iw_7_25 : Cond.code ⟨"GoldPlateModel", "bad", "(I)Z"⟩ prog_14_method_24_code 2 (some .boolean) ∈ gp_ws := gp_in7 (i := 25) rfl rfl
theorem iw_7_26 : Cond.methodLink "GoldPlateModel" 299 ⟨"GoldPlateModel", "number", "(II)Z"⟩ ∈ gp_ws := gp_in7 (i := 26) rfl rfl
theorem iw_7_28 : Cond.instanceMethod ⟨"GoldPlateModel", "number", "(II)Z"⟩ ∈ gp_ws := gp_in7 (i := 28) rfl rfl
theorem iw_7_29 : Cond.code ⟨"GoldPlateModel", "number", "(II)Z"⟩ prog_14_method_26_code 3 (some .boolean) ∈ gp_ws := gp_in7 (i := 29) rfl rfl
theorem iw_7_30 : Cond.methodLink "GoldPlateModel" 321 ⟨"GoldPlateModel", "aPrice", "()Z"⟩ ∈ gp_ws := gp_in7 (i := 30) rfl rfl
theorem iw_7_32 : Cond.instanceMethod ⟨"GoldPlateModel", "aPrice", "()Z"⟩ ∈ gp_ws := gp_in7 (i := 32) rfl rfl
theorem iw_7_33 : Cond.code ⟨"GoldPlateModel", "aPrice", "()Z"⟩ prog_14_method_35_code 2 (some .boolean) ∈ gp_ws := gp_in7 (i := 33) rfl rfl
theorem iw_7_34 : Cond.methodLink "GoldPlateModel" 318 ⟨"GoldPlateModel", "sumUp", "()Z"⟩ ∈ gp_ws := gp_in7 (i := 34) rfl rfl
theorem iw_7_36 : Cond.instanceMethod ⟨"GoldPlateModel", "sumUp", "()Z"⟩ ∈ gp_ws := gp_in7 (i := 36) rfl rfl
theorem iw_7_37 : Cond.code ⟨"GoldPlateModel", "sumUp", "()Z"⟩ prog_14_method_29_code 2 (some .boolean) ∈ gp_ws := gp_in7 (i := 37) rfl rfl
theorem iw_7_38 : Cond.methodLink "GoldPlateModel" 288 ⟨"GoldPlateModel", "product", "()Z"⟩ ∈ gp_ws := gp_in7 (i := 38) rfl rfl
theorem iw_7_40 : Cond.instanceMethod ⟨"GoldPlateModel", "product", "()Z"⟩ ∈ gp_ws := gp_in7 (i := 40) rfl rfl
theorem iw_7_41 : Cond.code ⟨"GoldPlateModel", "product", "()Z"⟩ prog_14_method_30_code 3 (some .boolean) ∈ gp_ws := gp_in7 (i := 41) rfl rfl
theorem iw_7_42 : Cond.methodLink "GoldPlateModel" 296 ⟨"GoldPlateModel", "unit", "()Z"⟩ ∈ gp_ws := gp_in7 (i := 42) rfl rfl
theorem iw_7_44 : Cond.instanceMethod ⟨"GoldPlateModel", "unit", "()Z"⟩ ∈ gp_ws := gp_in7 (i := 44) rfl rfl
theorem iw_7_45 : Cond.code ⟨"GoldPlateModel", "unit", "()Z"⟩ prog_14_method_31_code 2 (some .boolean) ∈ gp_ws := gp_in7 (i := 45) rfl rfl
theorem iw_7_46 : Cond.methodLink "GoldPlateModel" 292 ⟨"GoldPlateModel", "lay", "(II)V"⟩ ∈ gp_ws := gp_in7 (i := 46) rfl rfl
theorem iw_7_48 : Cond.instanceMethod ⟨"GoldPlateModel", "lay", "(II)V"⟩ ∈ gp_ws := gp_in7 (i := 48) rfl rfl
theorem iw_7_49 : Cond.code ⟨"GoldPlateModel", "lay", "(II)V"⟩ prog_14_method_27_code 3 none ∈ gp_ws := gp_in7 (i := 49) rfl rfl
theorem iw_7_50 : Cond.methodLink "GoldPlateModel" 312 ⟨"GoldPlateModel", "any", "()Z"⟩ ∈ gp_ws := gp_in7 (i := 50) rfl rfl
theorem iw_7_52 : Cond.instanceMethod ⟨"GoldPlateModel", "any", "()Z"⟩ ∈ gp_ws := gp_in7 (i := 52) rfl rfl
theorem iw_7_53 : Cond.code ⟨"GoldPlateModel", "any", "()Z"⟩ prog_14_method_32_code 1 (some .boolean) ∈ gp_ws := gp_in7 (i := 53) rfl rfl
theorem iw_7_54 : Cond.methodLink "GoldPlateModel" 303 ⟨"GoldPlateModel", "every", "()Z"⟩ ∈ gp_ws := gp_in7 (i := 54) rfl rfl
theorem iw_7_56 : Cond.instanceMethod ⟨"GoldPlateModel", "every", "()Z"⟩ ∈ gp_ws := gp_in7 (i := 56) rfl rfl
theorem iw_7_57 : Cond.code ⟨"GoldPlateModel", "every", "()Z"⟩ prog_14_method_33_code 1 (some .boolean) ∈ gp_ws := gp_in7 (i := 57) rfl rfl
theorem iw_7_58 : Cond.methodLink "GoldPlateModel" 306 ⟨"GoldPlateModel", "one", "()Z"⟩ ∈ gp_ws := gp_in7 (i := 58) rfl rfl
theorem iw_7_60 : Cond.instanceMethod ⟨"GoldPlateModel", "one", "()Z"⟩ ∈ gp_ws := gp_in7 (i := 60) rfl rfl
theorem iw_7_61 : Cond.code ⟨"GoldPlateModel", "one", "()Z"⟩ prog_14_method_34_code 2 (some .boolean) ∈ gp_ws := gp_in7 (i := 61) rfl rfl
theorem iw_7_62 : Cond.methodLink "GoldPlateModel" 309 ⟨"GoldPlateModel", "opens", "()Z"⟩ ∈ gp_ws := gp_in7 (i := 62) rfl rfl
theorem iw_7_64 : Cond.instanceMethod ⟨"GoldPlateModel", "opens", "()Z"⟩ ∈ gp_ws := gp_in7 (i := 64) rfl rfl
theorem iw_7_65 : Cond.code ⟨"GoldPlateModel", "opens", "()Z"⟩ prog_14_method_28_code 1 (some .boolean) ∈ gp_ws := gp_in7 (i := 65) rfl rfl
theorem iw_7_66 : Cond.methodLink "GoldPlateModel" 315 ⟨"GoldPlateModel", "need", "(I)Z"⟩ ∈ gp_ws := gp_in7 (i := 66) rfl rfl
theorem iw_7_68 : Cond.instanceMethod ⟨"GoldPlateModel", "need", "(I)Z"⟩ ∈ gp_ws := gp_in7 (i := 68) rfl rfl
theorem iw_7_69 : Cond.code ⟨"GoldPlateModel", "need", "(I)Z"⟩ prog_14_method_25_code 2 (some .boolean) ∈ gp_ws := gp_in7 (i := 69) rfl rfl
theorem iw_7_70 : Cond.methodLink "GoldPlateModel" 333 ⟨"GoldPlateModel", "takesMind", "(II)V"⟩ ∈ gp_ws := gp_in7 (i := 70) rfl rfl
theorem iw_7_72 : Cond.instanceMethod ⟨"GoldPlateModel", "takesMind", "(II)V"⟩ ∈ gp_ws := gp_in7 (i := 72) rfl rfl
theorem iw_7_73 : Cond.code ⟨"GoldPlateModel", "takesMind", "(II)V"⟩ prog_14_method_37_code 4 none ∈ gp_ws := gp_in7 (i := 73) rfl rfl
theorem iw_7_74 : Cond.methodLink "GoldPlateLaw" 58 ⟨"GoldPlateModel", "fault", "(I)I"⟩ ∈ gp_ws := gp_in7 (i := 74) rfl rfl
theorem iw_7_75 : Cond.instanceMethod ⟨"GoldPlateModel", "fault", "(I)I"⟩ ∈ gp_ws := gp_in7 (i := 75) rfl rfl
theorem iw_7_76 : Cond.selects "GoldPlateModel" ⟨"GoldPlateModel", "fault", "(I)I"⟩ ⟨"GoldPlateModel", "fault", "(I)I"⟩ ∈ gp_ws := gp_in7 (i := 76) rfl rfl
theorem iw_7_77 : Cond.code ⟨"GoldPlateModel", "fault", "(I)I"⟩ prog_14_method_40_code 2 (some .int) ∈ gp_ws := gp_in7 (i := 77) rfl rfl
theorem iw_7_78 : Cond.methodLink "GoldPlateLaw" 62 ⟨"GoldPlateModel", "readings", "(II)I"⟩ ∈ gp_ws := gp_in7 (i := 78) rfl rfl
theorem iw_7_79 : Cond.instanceMethod ⟨"GoldPlateModel", "readings", "(II)I"⟩ ∈ gp_ws := gp_in7 (i := 79) rfl rfl
theorem iw_7_80 : Cond.selects "GoldPlateModel" ⟨"GoldPlateModel", "readings", "(II)I"⟩ ⟨"GoldPlateModel", "readings", "(II)I"⟩ ∈ gp_ws := gp_in7 (i := 80) rfl rfl
theorem iw_7_81 : Cond.code ⟨"GoldPlateModel", "readings", "(II)I"⟩ prog_14_method_50_code 3 (some .int) ∈ gp_ws := gp_in7 (i := 81) rfl rfl
theorem iw_7_82 : Cond.methodLink "GoldPlateModel" 374 ⟨"GoldPlateModel", "laysPrices", "(I)V"⟩ ∈ gp_ws := gp_in7 (i := 82) rfl rfl
theorem iw_7_84 : Cond.instanceMethod ⟨"GoldPlateModel", "laysPrices", "(I)V"⟩ ∈ gp_ws := gp_in7 (i := 84) rfl rfl
theorem iw_7_85 : Cond.code ⟨"GoldPlateModel", "laysPrices", "(I)V"⟩ prog_14_method_46_code 6 none ∈ gp_ws := gp_in7 (i := 85) rfl rfl
theorem iw_7_86 : Cond.methodLink "GoldPlateModel" 346 ⟨"GoldPlateModel", "priceNow", "(I)I"⟩ ∈ gp_ws := gp_in7 (i := 86) rfl rfl
theorem iw_7_88 : Cond.instanceMethod ⟨"GoldPlateModel", "priceNow", "(I)I"⟩ ∈ gp_ws := gp_in7 (i := 88) rfl rfl
theorem iw_7_89 : Cond.code ⟨"GoldPlateModel", "priceNow", "(I)I"⟩ prog_14_method_43_code 5 (some .int) ∈ gp_ws := gp_in7 (i := 89) rfl rfl
theorem iw_7_90 : Cond.methodLink "GoldPlateModel" 340 ⟨"GoldPlateModel", "comesTo", "(III)I"⟩ ∈ gp_ws := gp_in7 (i := 90) rfl rfl
theorem iw_7_92 : Cond.instanceMethod ⟨"GoldPlateModel", "comesTo", "(III)I"⟩ ∈ gp_ws := gp_in7 (i := 92) rfl rfl
theorem iw_7_93 : Cond.code ⟨"GoldPlateModel", "comesTo", "(III)I"⟩ prog_14_method_42_code 8 (some .int) ∈ gp_ws := gp_in7 (i := 93) rfl rfl
theorem iw_7_94 : Cond.methodLink "GoldPlateModel" 336 ⟨"GoldPlateModel", "both", "(III)I"⟩ ∈ gp_ws := gp_in7 (i := 94) rfl rfl
theorem iw_7_95 : Cond.static ⟨"GoldPlateModel", "both", "(III)I"⟩ ∈ gp_ws := gp_in7 (i := 95) rfl rfl
theorem iw_7_96 : Cond.code ⟨"GoldPlateModel", "both", "(III)I"⟩ prog_14_method_41_code 3 (some .int) ∈ gp_ws := gp_in7 (i := 96) rfl rfl
theorem iw_7_97 : Cond.methodLink "GoldPlateModel" 370 ⟨"GoldPlateModel", "goesOn", "(IIZ)V"⟩ ∈ gp_ws := gp_in7 (i := 97) rfl rfl
theorem iw_7_99 : Cond.instanceMethod ⟨"GoldPlateModel", "goesOn", "(IIZ)V"⟩ ∈ gp_ws := gp_in7 (i := 99) rfl rfl
theorem iw_7_100 : Cond.code ⟨"GoldPlateModel", "goesOn", "(IIZ)V"⟩ prog_14_method_49_code 5 none ∈ gp_ws := gp_in7 (i := 100) rfl rfl
theorem iw_7_101 : Cond.methodLink "GoldPlateModel" 364 ⟨"GoldPlateModel", "canTake", "(II)Z"⟩ ∈ gp_ws := gp_in7 (i := 101) rfl rfl
theorem iw_7_103 : Cond.instanceMethod ⟨"GoldPlateModel", "canTake", "(II)Z"⟩ ∈ gp_ws := gp_in7 (i := 103) rfl rfl
theorem iw_7_104 : Cond.code ⟨"GoldPlateModel", "canTake", "(II)Z"⟩ prog_14_method_47_code 6 (some .boolean) ∈ gp_ws := gp_in7 (i := 104) rfl rfl
theorem iw_7_105 : Cond.methodLink "GoldPlateModel" 349 ⟨"GoldPlateModel", "canSee", "(III)Z"⟩ ∈ gp_ws := gp_in7 (i := 105) rfl rfl
theorem iw_7_107 : Cond.instanceMethod ⟨"GoldPlateModel", "canSee", "(III)Z"⟩ ∈ gp_ws := gp_in7 (i := 107) rfl rfl
theorem iw_7_108 : Cond.code ⟨"GoldPlateModel", "canSee", "(III)Z"⟩ prog_14_method_44_code 4 (some .boolean) ∈ gp_ws := gp_in7 (i := 108) rfl rfl
theorem iw_7_109 : Cond.methodLink "GoldPlateModel" 367 ⟨"GoldPlateModel", "isTwice", "(II)Z"⟩ ∈ gp_ws := gp_in7 (i := 109) rfl rfl
theorem iw_7_111 : Cond.instanceMethod ⟨"GoldPlateModel", "isTwice", "(II)Z"⟩ ∈ gp_ws := gp_in7 (i := 111) rfl rfl
theorem iw_7_112 : Cond.code ⟨"GoldPlateModel", "isTwice", "(II)Z"⟩ prog_14_method_48_code 4 (some .boolean) ∈ gp_ws := gp_in7 (i := 112) rfl rfl
theorem iw_7_113 : Cond.methodLink "GoldPlateModel" 352 ⟨"GoldPlateModel", "thing", "(II)I"⟩ ∈ gp_ws := gp_in7 (i := 113) rfl rfl
theorem iw_7_115 : Cond.instanceMethod ⟨"GoldPlateModel", "thing", "(II)I"⟩ ∈ gp_ws := gp_in7 (i := 115) rfl rfl
theorem iw_7_116 : Cond.code ⟨"GoldPlateModel", "thing", "(II)I"⟩ prog_14_method_45_code 3 (some .int) ∈ gp_ws := gp_in7 (i := 116) rfl rfl
theorem iw_7_117 : Cond.methodLink "GoldPlateLaw" 66 ⟨"GoldPlateModel", "cheapest", "(II)I"⟩ ∈ gp_ws := gp_in7 (i := 117) rfl rfl
theorem iw_7_118 : Cond.instanceMethod ⟨"GoldPlateModel", "cheapest", "(II)I"⟩ ∈ gp_ws := gp_in7 (i := 118) rfl rfl
theorem iw_7_119 : Cond.selects "GoldPlateModel" ⟨"GoldPlateModel", "cheapest", "(II)I"⟩ ⟨"GoldPlateModel", "cheapest", "(II)I"⟩ ∈ gp_ws := gp_in7 (i := 119) rfl rfl
theorem iw_7_120 : Cond.code ⟨"GoldPlateModel", "cheapest", "(II)I"⟩ prog_14_method_53_code 6 (some .int) ∈ gp_ws := gp_in7 (i := 120) rfl rfl
theorem iw_7_121 : Cond.methodLink "GoldPlateModel" 378 ⟨"GoldPlateModel", "seeks", "(I)V"⟩ ∈ gp_ws := gp_in7 (i := 121) rfl rfl
theorem iw_7_123 : Cond.instanceMethod ⟨"GoldPlateModel", "seeks", "(I)V"⟩ ∈ gp_ws := gp_in7 (i := 123) rfl rfl
theorem iw_7_124 : Cond.code ⟨"GoldPlateModel", "seeks", "(I)V"⟩ prog_14_method_51_code 2 none ∈ gp_ws := gp_in7 (i := 124) rfl rfl
theorem iw_7_125 : Cond.methodLink "GoldPlateModel" 381 ⟨"GoldPlateModel", "allNeeds", "(I)I"⟩ ∈ gp_ws := gp_in7 (i := 125) rfl rfl
theorem iw_7_127 : Cond.instanceMethod ⟨"GoldPlateModel", "allNeeds", "(I)I"⟩ ∈ gp_ws := gp_in7 (i := 127) rfl rfl
theorem iw_7_128 : Cond.code ⟨"GoldPlateModel", "allNeeds", "(I)I"⟩ prog_14_method_52_code 4 (some .int) ∈ gp_ws := gp_in7 (i := 128) rfl rfl
theorem iw_7_129 : Cond.methodLink "GoldPlateLaw" 70 ⟨"GoldPlateModel", "alone", "(II)I"⟩ ∈ gp_ws := gp_in7 (i := 129) rfl rfl
theorem iw_7_130 : Cond.instanceMethod ⟨"GoldPlateModel", "alone", "(II)I"⟩ ∈ gp_ws := gp_in7 (i := 130) rfl rfl
theorem iw_7_131 : Cond.selects "GoldPlateModel" ⟨"GoldPlateModel", "alone", "(II)I"⟩ ⟨"GoldPlateModel", "alone", "(II)I"⟩ ∈ gp_ws := gp_in7 (i := 131) rfl rfl
theorem iw_7_132 : Cond.code ⟨"GoldPlateModel", "alone", "(II)I"⟩ prog_14_method_55_code 3 (some .int) ∈ gp_ws := gp_in7 (i := 132) rfl rfl
theorem iw_7_133 : Cond.methodLink "GoldPlateModel" 384 ⟨"GoldPlateModel", "isAlone", "(III)Z"⟩ ∈ gp_ws := gp_in7 (i := 133) rfl rfl
theorem iw_7_135 : Cond.instanceMethod ⟨"GoldPlateModel", "isAlone", "(III)Z"⟩ ∈ gp_ws := gp_in7 (i := 135) rfl rfl
theorem iw_7_136 : Cond.code ⟨"GoldPlateModel", "isAlone", "(III)Z"⟩ prog_14_method_54_code 6 (some .boolean) ∈ gp_ws := gp_in7 (i := 136) rfl rfl
theorem iw_7_137 : Cond.methodLink "GoldPlateLaw" 74 ⟨"GoldPlateModel", "bits", "(II)I"⟩ ∈ gp_ws := gp_in7 (i := 137) rfl rfl
theorem iw_7_138 : Cond.instanceMethod ⟨"GoldPlateModel", "bits", "(II)I"⟩ ∈ gp_ws := gp_in7 (i := 138) rfl rfl
theorem iw_7_139 : Cond.selects "GoldPlateModel" ⟨"GoldPlateModel", "bits", "(II)I"⟩ ⟨"GoldPlateModel", "bits", "(II)I"⟩ ∈ gp_ws := gp_in7 (i := 139) rfl rfl
theorem iw_7_140 : Cond.code ⟨"GoldPlateModel", "bits", "(II)I"⟩ prog_14_method_56_code 4 (some .int) ∈ gp_ws := gp_in7 (i := 140) rfl rfl
theorem iw_7_141 : Cond.methodLink "GoldPlateLaw" 78 ⟨"GoldPlateModel", "grid", "(II)I"⟩ ∈ gp_ws := gp_in7 (i := 141) rfl rfl
theorem iw_7_142 : Cond.instanceMethod ⟨"GoldPlateModel", "grid", "(II)I"⟩ ∈ gp_ws := gp_in7 (i := 142) rfl rfl
theorem iw_7_143 : Cond.selects "GoldPlateModel" ⟨"GoldPlateModel", "grid", "(II)I"⟩ ⟨"GoldPlateModel", "grid", "(II)I"⟩ ∈ gp_ws := gp_in7 (i := 143) rfl rfl
theorem iw_7_144 : Cond.code ⟨"GoldPlateModel", "grid", "(II)I"⟩ prog_14_method_57_code 4 (some .int) ∈ gp_ws := gp_in7 (i := 144) rfl rfl
theorem iw_7_145 : Cond.methodLink "GoldPlateLaw" 82 ⟨"GoldPlateModel", "widths", "(II)I"⟩ ∈ gp_ws := gp_in7 (i := 145) rfl rfl
theorem iw_7_146 : Cond.instanceMethod ⟨"GoldPlateModel", "widths", "(II)I"⟩ ∈ gp_ws := gp_in7 (i := 146) rfl rfl
theorem iw_7_147 : Cond.selects "GoldPlateModel" ⟨"GoldPlateModel", "widths", "(II)I"⟩ ⟨"GoldPlateModel", "widths", "(II)I"⟩ ∈ gp_ws := gp_in7 (i := 147) rfl rfl
theorem iw_7_148 : Cond.code ⟨"GoldPlateModel", "widths", "(II)I"⟩ prog_14_method_64_code 3 (some .int) ∈ gp_ws := gp_in7 (i := 148) rfl rfl
theorem iw_7_149 : Cond.methodLink "GoldPlateModel" 411 ⟨"GoldPlateModel", "findsWidths", "(I)V"⟩ ∈ gp_ws := gp_in7 (i := 149) rfl rfl
theorem iw_7_151 : Cond.instanceMethod ⟨"GoldPlateModel", "findsWidths", "(I)V"⟩ ∈ gp_ws := gp_in7 (i := 151) rfl rfl
theorem iw_7_152 : Cond.code ⟨"GoldPlateModel", "findsWidths", "(I)V"⟩ prog_14_method_63_code 5 none ∈ gp_ws := gp_in7 (i := 152) rfl rfl
theorem iw_7_153 : Cond.methodLink "GoldPlateModel" 405 ⟨"GoldPlateModel", "isWidth", "(I)Z"⟩ ∈ gp_ws := gp_in7 (i := 153) rfl rfl
theorem iw_7_155 : Cond.instanceMethod ⟨"GoldPlateModel", "isWidth", "(I)Z"⟩ ∈ gp_ws := gp_in7 (i := 155) rfl rfl
theorem iw_7_156 : Cond.code ⟨"GoldPlateModel", "isWidth", "(I)Z"⟩ prog_14_method_58_code 2 (some .boolean) ∈ gp_ws := gp_in7 (i := 156) rfl rfl
theorem iw_7_157 : Cond.methodLink "GoldPlateModel" 408 ⟨"GoldPlateModel", "triedAs", "(II)I"⟩ ∈ gp_ws := gp_in7 (i := 157) rfl rfl
theorem iw_7_159 : Cond.instanceMethod ⟨"GoldPlateModel", "triedAs", "(II)I"⟩ ∈ gp_ws := gp_in7 (i := 159) rfl rfl
theorem iw_7_160 : Cond.code ⟨"GoldPlateModel", "triedAs", "(II)I"⟩ prog_14_method_62_code 5 (some .int) ∈ gp_ws := gp_in7 (i := 160) rfl rfl
theorem iw_7_161 : Cond.methodLink "GoldPlateModel" 397 ⟨"GoldPlateModel", "isPrime", "(I)Z"⟩ ∈ gp_ws := gp_in7 (i := 161) rfl rfl
theorem iw_7_162 : Cond.static ⟨"GoldPlateModel", "isPrime", "(I)Z"⟩ ∈ gp_ws := gp_in7 (i := 162) rfl rfl
theorem iw_7_163 : Cond.code ⟨"GoldPlateModel", "isPrime", "(I)Z"⟩ prog_14_method_60_code 2 (some .boolean) ∈ gp_ws := gp_in7 (i := 163) rfl rfl
theorem iw_7_164 : Cond.methodLink "GoldPlateModel" 400 ⟨"GoldPlateModel", "edges", "(II)I"⟩ ∈ gp_ws := gp_in7 (i := 164) rfl rfl
theorem iw_7_166 : Cond.instanceMethod ⟨"GoldPlateModel", "edges", "(II)I"⟩ ∈ gp_ws := gp_in7 (i := 166) rfl rfl
theorem iw_7_167 : Cond.code ⟨"GoldPlateModel", "edges", "(II)I"⟩ prog_14_method_61_code 7 (some .int) ∈ gp_ws := gp_in7 (i := 167) rfl rfl
theorem iw_7_168 : Cond.methodLink "GoldPlateModel" 393 ⟨"GoldPlateModel", "laidAt", "(IIII)I"⟩ ∈ gp_ws := gp_in7 (i := 168) rfl rfl
theorem iw_7_170 : Cond.instanceMethod ⟨"GoldPlateModel", "laidAt", "(IIII)I"⟩ ∈ gp_ws := gp_in7 (i := 170) rfl rfl
theorem iw_7_171 : Cond.code ⟨"GoldPlateModel", "laidAt", "(IIII)I"⟩ prog_14_method_59_code 5 (some .int) ∈ gp_ws := gp_in7 (i := 171) rfl rfl
theorem iw_7_172 : Cond.methodLink "GoldPlateLaw" 87 ⟨"GoldPlateModel", "laid", "(III)I"⟩ ∈ gp_ws := gp_in7 (i := 172) rfl rfl
theorem iw_7_173 : Cond.instanceMethod ⟨"GoldPlateModel", "laid", "(III)I"⟩ ∈ gp_ws := gp_in7 (i := 173) rfl rfl
theorem iw_7_174 : Cond.selects "GoldPlateModel" ⟨"GoldPlateModel", "laid", "(III)I"⟩ ⟨"GoldPlateModel", "laid", "(III)I"⟩ ∈ gp_ws := gp_in7 (i := 174) rfl rfl
theorem iw_7_175 : Cond.code ⟨"GoldPlateModel", "laid", "(III)I"⟩ prog_14_method_65_code 9 (some .int) ∈ gp_ws := gp_in7 (i := 175) rfl rfl
theorem iw_7_176 : Cond.methodLink "GoldPlateLaw" 92 ⟨"GoldPlateModel", "beat", "(IIII)I"⟩ ∈ gp_ws := gp_in7 (i := 176) rfl rfl
theorem iw_7_177 : Cond.instanceMethod ⟨"GoldPlateModel", "beat", "(IIII)I"⟩ ∈ gp_ws := gp_in7 (i := 177) rfl rfl
theorem iw_7_178 : Cond.selects "GoldPlateModel" ⟨"GoldPlateModel", "beat", "(IIII)I"⟩ ⟨"GoldPlateModel", "beat", "(IIII)I"⟩ ∈ gp_ws := gp_in7 (i := 178) rfl rfl
theorem iw_7_179 : Cond.code ⟨"GoldPlateModel", "beat", "(IIII)I"⟩ prog_14_method_67_code 5 (some .int) ∈ gp_ws := gp_in7 (i := 179) rfl rfl
theorem iw_7_180 : Cond.constant "GoldPlateModel" 417 (999999) ∈ gp_ws := gp_in7 (i := 180) rfl rfl
theorem iw_7_181 : Cond.methodLink "GoldPlateLaw" 96 ⟨"GoldPlateModel", "found", "(III)Z"⟩ ∈ gp_ws := gp_in7 (i := 181) rfl rfl
theorem iw_7_182 : Cond.instanceMethod ⟨"GoldPlateModel", "found", "(III)Z"⟩ ∈ gp_ws := gp_in7 (i := 182) rfl rfl
theorem iw_7_183 : Cond.selects "GoldPlateModel" ⟨"GoldPlateModel", "found", "(III)Z"⟩ ⟨"GoldPlateModel", "found", "(III)Z"⟩ ∈ gp_ws := gp_in7 (i := 183) rfl rfl
theorem iw_7_184 : Cond.code ⟨"GoldPlateModel", "found", "(III)Z"⟩ prog_14_method_68_code 4 (some .boolean) ∈ gp_ws := gp_in7 (i := 184) rfl rfl
theorem iw_7_185 : Cond.methodLink "GoldPlateModel" 418 ⟨"GoldPlateModel", "isBeat", "(I)Z"⟩ ∈ gp_ws := gp_in7 (i := 185) rfl rfl
theorem iw_7_187 : Cond.instanceMethod ⟨"GoldPlateModel", "isBeat", "(I)Z"⟩ ∈ gp_ws := gp_in7 (i := 187) rfl rfl
theorem iw_7_188 : Cond.code ⟨"GoldPlateModel", "isBeat", "(I)Z"⟩ prog_14_method_66_code 2 (some .boolean) ∈ gp_ws := gp_in7 (i := 188) rfl rfl
theorem iw_7_189 : Cond.constant "GoldPlateModel" 421 (9999999) ∈ gp_ws := gp_in7 (i := 189) rfl rfl
theorem iw_7_190 : Cond.methodLink "GoldPlateLaw" 100 ⟨"GoldPlateModel", "far", "(II)Z"⟩ ∈ gp_ws := gp_in7 (i := 190) rfl rfl
theorem iw_7_191 : Cond.instanceMethod ⟨"GoldPlateModel", "far", "(II)Z"⟩ ∈ gp_ws := gp_in7 (i := 191) rfl rfl
theorem iw_7_192 : Cond.selects "GoldPlateModel" ⟨"GoldPlateModel", "far", "(II)Z"⟩ ⟨"GoldPlateModel", "far", "(II)Z"⟩ ∈ gp_ws := gp_in7 (i := 192) rfl rfl
theorem iw_7_193 : Cond.code ⟨"GoldPlateModel", "far", "(II)Z"⟩ prog_14_method_69_code 3 (some .boolean) ∈ gp_ws := gp_in7 (i := 193) rfl rfl
theorem iw_7_194 : Cond.methodLink "GoldPlateLaw" 104 ⟨"GoldPlateModel", "years", "(I)I"⟩ ∈ gp_ws := gp_in7 (i := 194) rfl rfl
theorem iw_7_195 : Cond.instanceMethod ⟨"GoldPlateModel", "years", "(I)I"⟩ ∈ gp_ws := gp_in7 (i := 195) rfl rfl
theorem iw_7_196 : Cond.selects "GoldPlateModel" ⟨"GoldPlateModel", "years", "(I)I"⟩ ⟨"GoldPlateModel", "years", "(I)I"⟩ ∈ gp_ws := gp_in7 (i := 196) rfl rfl
theorem iw_7_197 : Cond.code ⟨"GoldPlateModel", "years", "(I)I"⟩ prog_14_method_71_code 7 (some .int) ∈ gp_ws := gp_in7 (i := 197) rfl rfl
theorem iw_7_198 : Cond.methodLink "GoldPlateModel" 424 ⟨"GoldPlateModel", "isThen", "(I)Z"⟩ ∈ gp_ws := gp_in7 (i := 198) rfl rfl
theorem iw_7_200 : Cond.instanceMethod ⟨"GoldPlateModel", "isThen", "(I)Z"⟩ ∈ gp_ws := gp_in7 (i := 200) rfl rfl
theorem iw_7_201 : Cond.code ⟨"GoldPlateModel", "isThen", "(I)Z"⟩ prog_14_method_70_code 5 (some .boolean) ∈ gp_ws := gp_in7 (i := 201) rfl rfl
theorem iw_7_202 : Cond.constantLong "GoldPlateModel" 422 (1000000) ∈ gp_ws := gp_in7 (i := 202) rfl rfl
theorem iw_7_203 : Cond.methodLink "GoldPlateLaw" 108 ⟨"GoldPlateModel", "places", "(II)I"⟩ ∈ gp_ws := gp_in7 (i := 203) rfl rfl
theorem iw_7_204 : Cond.instanceMethod ⟨"GoldPlateModel", "places", "(II)I"⟩ ∈ gp_ws := gp_in7 (i := 204) rfl rfl
theorem iw_7_205 : Cond.selects "GoldPlateModel" ⟨"GoldPlateModel", "places", "(II)I"⟩ ⟨"GoldPlateModel", "places", "(II)I"⟩ ∈ gp_ws := gp_in7 (i := 205) rfl rfl
theorem iw_7_206 : Cond.code ⟨"GoldPlateModel", "places", "(II)I"⟩ prog_14_method_73_code 9 (some .int) ∈ gp_ws := gp_in7 (i := 206) rfl rfl
theorem iw_7_207 : Cond.methodLink "GoldPlateModel" 427 ⟨"GoldPlateModel", "distance", "(II)I"⟩ ∈ gp_ws := gp_in7 (i := 207) rfl rfl
theorem iw_7_208 : Cond.static ⟨"GoldPlateModel", "distance", "(II)I"⟩ ∈ gp_ws := gp_in7 (i := 208) rfl rfl
theorem iw_7_209 : Cond.code ⟨"GoldPlateModel", "distance", "(II)I"⟩ prog_14_method_72_code 3 (some .int) ∈ gp_ws := gp_in7 (i := 209) rfl rfl
theorem iw_7_210 : Cond.methodLink "GoldPlateLaw" 112 ⟨"GoldPlateModel", "told", "(II)I"⟩ ∈ gp_ws := gp_in7 (i := 210) rfl rfl
theorem iw_7_211 : Cond.instanceMethod ⟨"GoldPlateModel", "told", "(II)I"⟩ ∈ gp_ws := gp_in7 (i := 211) rfl rfl
theorem iw_7_212 : Cond.selects "GoldPlateModel" ⟨"GoldPlateModel", "told", "(II)I"⟩ ⟨"GoldPlateModel", "told", "(II)I"⟩ ∈ gp_ws := gp_in7 (i := 212) rfl rfl
theorem iw_7_213 : Cond.code ⟨"GoldPlateModel", "told", "(II)I"⟩ prog_14_method_75_code 3 (some .int) ∈ gp_ws := gp_in7 (i := 213) rfl rfl
theorem iw_7_214 : Cond.constant "GoldPlateModel" 430 (65535) ∈ gp_ws := gp_in7 (i := 214) rfl rfl
theorem iw_7_215 : Cond.methodLink "GoldPlateModel" 431 ⟨"GoldPlateModel", "toldBy", "(III)I"⟩ ∈ gp_ws := gp_in7 (i := 215) rfl rfl
theorem iw_7_217 : Cond.instanceMethod ⟨"GoldPlateModel", "toldBy", "(III)I"⟩ ∈ gp_ws := gp_in7 (i := 217) rfl rfl
theorem iw_7_218 : Cond.code ⟨"GoldPlateModel", "toldBy", "(III)I"⟩ prog_14_method_74_code 7 (some .int) ∈ gp_ws := gp_in7 (i := 218) rfl rfl
theorem iw_7_219 : Cond.methodLink "GoldPlateLaw" 116 ⟨"GoldPlateModel", "best", "(III)I"⟩ ∈ gp_ws := gp_in7 (i := 219) rfl rfl
theorem iw_7_220 : Cond.instanceMethod ⟨"GoldPlateModel", "best", "(III)I"⟩ ∈ gp_ws := gp_in7 (i := 220) rfl rfl
theorem iw_7_221 : Cond.selects "GoldPlateModel" ⟨"GoldPlateModel", "best", "(III)I"⟩ ⟨"GoldPlateModel", "best", "(III)I"⟩ ∈ gp_ws := gp_in7 (i := 221) rfl rfl
theorem iw_7_222 : Cond.code ⟨"GoldPlateModel", "best", "(III)I"⟩ prog_14_method_78_code 10 (some .int) ∈ gp_ws := gp_in7 (i := 222) rfl rfl
theorem iw_7_223 : Cond.methodLink "GoldPlateModel" 437 ⟨"GoldPlateModel", "worth", "(IIZ)I"⟩ ∈ gp_ws := gp_in7 (i := 223) rfl rfl
theorem iw_7_225 : Cond.instanceMethod ⟨"GoldPlateModel", "worth", "(IIZ)I"⟩ ∈ gp_ws := gp_in7 (i := 225) rfl rfl
theorem iw_7_226 : Cond.code ⟨"GoldPlateModel", "worth", "(IIZ)I"⟩ prog_14_method_77_code 7 (some .int) ∈ gp_ws := gp_in7 (i := 226) rfl rfl
theorem iw_7_227 : Cond.methodLink "GoldPlateModel" 434 ⟨"GoldPlateModel", "count", "(I)I"⟩ ∈ gp_ws := gp_in7 (i := 227) rfl rfl
theorem iw_7_228 : Cond.static ⟨"GoldPlateModel", "count", "(I)I"⟩ ∈ gp_ws := gp_in7 (i := 228) rfl rfl
theorem iw_7_229 : Cond.code ⟨"GoldPlateModel", "count", "(I)I"⟩ prog_14_method_3_code 3 (some .int) ∈ gp_ws := gp_in7 (i := 229) rfl rfl
theorem iw_7_230 : Cond.methodLink "GoldPlateModel" 441 ⟨"GoldPlateModel", "costOfSet", "(I)I"⟩ ∈ gp_ws := gp_in7 (i := 230) rfl rfl
theorem iw_7_232 : Cond.instanceMethod ⟨"GoldPlateModel", "costOfSet", "(I)I"⟩ ∈ gp_ws := gp_in7 (i := 232) rfl rfl
theorem iw_7_233 : Cond.code ⟨"GoldPlateModel", "costOfSet", "(I)I"⟩ prog_14_method_76_code 4 (some .int) ∈ gp_ws := gp_in7 (i := 233) rfl rfl
theorem iw_7_234 : Cond.methodLink "GoldPlateLaw" 120 ⟨"GoldPlateModel", "never", "(I)I"⟩ ∈ gp_ws := gp_in7 (i := 234) rfl rfl
theorem iw_7_235 : Cond.instanceMethod ⟨"GoldPlateModel", "never", "(I)I"⟩ ∈ gp_ws := gp_in7 (i := 235) rfl rfl
theorem iw_7_236 : Cond.selects "GoldPlateModel" ⟨"GoldPlateModel", "never", "(I)I"⟩ ⟨"GoldPlateModel", "never", "(I)I"⟩ ∈ gp_ws := gp_in7 (i := 236) rfl rfl
theorem iw_7_237 : Cond.code ⟨"GoldPlateModel", "never", "(I)I"⟩ prog_14_method_80_code 4 (some .int) ∈ gp_ws := gp_in7 (i := 237) rfl rfl
theorem iw_7_238 : Cond.methodLink "GoldPlateModel" 444 ⟨"GoldPlateModel", "allMarks", "()I"⟩ ∈ gp_ws := gp_in7 (i := 238) rfl rfl
theorem iw_8_0 : Cond.instanceMethod ⟨"GoldPlateModel", "allMarks", "()I"⟩ ∈ gp_ws := gp_in8 (i := 0) rfl rfl
theorem iw_8_1 : Cond.code ⟨"GoldPlateModel", "allMarks", "()I"⟩ prog_14_method_79_code 1 (some .int) ∈ gp_ws := gp_in8 (i := 1) rfl rfl
theorem iw_8_2 : Cond.methodLink "GoldPlateLaw" 124 ⟨"GoldPlateModel", "deeper", "(II)I"⟩ ∈ gp_ws := gp_in8 (i := 2) rfl rfl
theorem iw_8_3 : Cond.instanceMethod ⟨"GoldPlateModel", "deeper", "(II)I"⟩ ∈ gp_ws := gp_in8 (i := 3) rfl rfl
theorem iw_8_4 : Cond.selects "GoldPlateModel" ⟨"GoldPlateModel", "deeper", "(II)I"⟩ ⟨"GoldPlateModel", "deeper", "(II)I"⟩ ∈ gp_ws := gp_in8 (i := 4) rfl rfl
theorem iw_8_5 : Cond.code ⟨"GoldPlateModel", "deeper", "(II)I"⟩ prog_14_method_81_code 7 (some .int) ∈ gp_ws := gp_in8 (i := 5) rfl rfl
theorem iw_8_6 : Cond.methodLink "GoldPlateLaw" 128 ⟨"GoldPlateModel", "trial", "(I)I"⟩ ∈ gp_ws := gp_in8 (i := 6) rfl rfl
theorem iw_8_7 : Cond.instanceMethod ⟨"GoldPlateModel", "trial", "(I)I"⟩ ∈ gp_ws := gp_in8 (i := 7) rfl rfl
theorem iw_8_8 : Cond.selects "GoldPlateModel" ⟨"GoldPlateModel", "trial", "(I)I"⟩ ⟨"GoldPlateModel", "trial", "(I)I"⟩ ∈ gp_ws := gp_in8 (i := 8) rfl rfl
theorem iw_8_9 : Cond.code ⟨"GoldPlateModel", "trial", "(I)I"⟩ prog_14_method_82_code 4 (some .int) ∈ gp_ws := gp_in8 (i := 9) rfl rfl
theorem iw_8_10 : Cond.methodLink "GoldPlateLaw" 132 ⟨"GoldPlateModel", "agrees", "(I)I"⟩ ∈ gp_ws := gp_in8 (i := 10) rfl rfl
theorem iw_8_11 : Cond.instanceMethod ⟨"GoldPlateModel", "agrees", "(I)I"⟩ ∈ gp_ws := gp_in8 (i := 11) rfl rfl
theorem iw_8_12 : Cond.selects "GoldPlateModel" ⟨"GoldPlateModel", "agrees", "(I)I"⟩ ⟨"GoldPlateModel", "agrees", "(I)I"⟩ ∈ gp_ws := gp_in8 (i := 12) rfl rfl
theorem iw_8_13 : Cond.code ⟨"GoldPlateModel", "agrees", "(I)I"⟩ prog_14_method_84_code 5 (some .int) ∈ gp_ws := gp_in8 (i := 13) rfl rfl
theorem iw_8_14 : Cond.methodLink "GoldPlateModel" 450 ⟨"GoldPlateModel", "cheapestNow", "()I"⟩ ∈ gp_ws := gp_in8 (i := 14) rfl rfl
theorem iw_8_16 : Cond.instanceMethod ⟨"GoldPlateModel", "cheapestNow", "()I"⟩ ∈ gp_ws := gp_in8 (i := 16) rfl rfl
theorem iw_8_17 : Cond.code ⟨"GoldPlateModel", "cheapestNow", "()I"⟩ prog_14_method_83_code 3 (some .int) ∈ gp_ws := gp_in8 (i := 17) rfl rfl
theorem iw_8_18 : Cond.methodLink "GoldPlateLaw" 136 ⟨"GoldPlateModel", "ours", "(I)I"⟩ ∈ gp_ws := gp_in8 (i := 18) rfl rfl
theorem iw_8_19 : Cond.instanceMethod ⟨"GoldPlateModel", "ours", "(I)I"⟩ ∈ gp_ws := gp_in8 (i := 19) rfl rfl
theorem iw_8_20 : Cond.selects "GoldPlateModel" ⟨"GoldPlateModel", "ours", "(I)I"⟩ ⟨"GoldPlateModel", "ours", "(I)I"⟩ ∈ gp_ws := gp_in8 (i := 20) rfl rfl
theorem iw_8_21 : Cond.code ⟨"GoldPlateModel", "ours", "(I)I"⟩ prog_14_method_86_code 6 (some .int) ∈ gp_ws := gp_in8 (i := 21) rfl rfl
theorem iw_8_22 : Cond.methodLink "GoldPlateModel" 453 ⟨"GoldPlateModel", "isOfThis", "(I)Z"⟩ ∈ gp_ws := gp_in8 (i := 22) rfl rfl
theorem iw_8_24 : Cond.instanceMethod ⟨"GoldPlateModel", "isOfThis", "(I)Z"⟩ ∈ gp_ws := gp_in8 (i := 24) rfl rfl
theorem iw_8_25 : Cond.code ⟨"GoldPlateModel", "isOfThis", "(I)Z"⟩ prog_14_method_85_code 4 (some .boolean) ∈ gp_ws := gp_in8 (i := 25) rfl rfl
theorem iw_8_26 : Cond.methodLink "GoldPlateLaw" 140 ⟨"GoldPlateModel", "look", "(I)I"⟩ ∈ gp_ws := gp_in8 (i := 26) rfl rfl
theorem iw_8_27 : Cond.instanceMethod ⟨"GoldPlateModel", "look", "(I)I"⟩ ∈ gp_ws := gp_in8 (i := 27) rfl rfl
theorem iw_8_28 : Cond.selects "GoldPlateModel" ⟨"GoldPlateModel", "look", "(I)I"⟩ ⟨"GoldPlateModel", "look", "(I)I"⟩ ∈ gp_ws := gp_in8 (i := 28) rfl rfl
theorem iw_8_29 : Cond.code ⟨"GoldPlateModel", "look", "(I)I"⟩ prog_14_method_87_code 2 (some .int) ∈ gp_ws := gp_in8 (i := 29) rfl rfl
theorem iw_8_30 : Cond.fieldLink "java/lang/String" 9 "java/lang/String" "value" "[B" ∈ gp_ws := gp_in8 (i := 30) rfl rfl
theorem iw_8_31 : Cond.fieldLink "java/lang/String" 15 "java/lang/String" "coder" "B" ∈ gp_ws := gp_in8 (i := 31) rfl rfl
