section
def lw_okq (q : MethodName × Nat) : Prop := (q.1.cls ≠ "java/lang/invoke/MethodHandle" ∧ q.1.cls ≠ "java/lang/invoke/VarHandle") ∧ Cond.instantiable q.1.cls q.2 ∈ tables_1 ∧ Cond.privateMethod q.1 ∈ tables_1 ∧ Cond.instanceMethod q.1 ∈ tables_1
theorem lw_p0 : lw_okq (⟨"LidForEach$Table", "isCell", "(II)Z"⟩, 4) := ⟨⟨by decide +kernel, by decide +kernel⟩, List.mem_of_getElem? (i := 34) (by decide +kernel), List.mem_of_getElem? (i := 283) (by decide +kernel), List.mem_of_getElem? (i := 284) (by decide +kernel)⟩
theorem lw_p1 : lw_okq (⟨"LidForEach", "told", "(I)I"⟩, 14) := ⟨⟨by decide +kernel, by decide +kernel⟩, List.mem_of_getElem? (i := 20) (by decide +kernel), List.mem_of_getElem? (i := 292) (by decide +kernel), List.mem_of_getElem? (i := 293) (by decide +kernel)⟩
theorem lw_p2 : lw_okq (⟨"LidForEach$Cupboard", "rowFits", "(LLidForEach$Table;II)Z"⟩, 6) := ⟨⟨by decide +kernel, by decide +kernel⟩, List.mem_of_getElem? (i := 28) (by decide +kernel), List.mem_of_getElem? (i := 319) (by decide +kernel), List.mem_of_getElem? (i := 320) (by decide +kernel)⟩
theorem lw_p3 : lw_okq (⟨"LidForEach$Cupboard", "boxUnder", "(I)I"⟩, 6) := ⟨⟨by decide +kernel, by decide +kernel⟩, List.mem_of_getElem? (i := 28) (by decide +kernel), List.mem_of_getElem? (i := 327) (by decide +kernel), List.mem_of_getElem? (i := 328) (by decide +kernel)⟩
theorem lw_p4 : lw_okq (⟨"LidForEach$Cupboard", "remember", "(III)V"⟩, 6) := ⟨⟨by decide +kernel, by decide +kernel⟩, List.mem_of_getElem? (i := 28) (by decide +kernel), List.mem_of_getElem? (i := 335) (by decide +kernel), List.mem_of_getElem? (i := 336) (by decide +kernel)⟩
theorem lw_p5 : lw_okq (⟨"LidForEach", "badToldApart", "()I"⟩, 14) := ⟨⟨by decide +kernel, by decide +kernel⟩, List.mem_of_getElem? (i := 20) (by decide +kernel), List.mem_of_getElem? (i := 372) (by decide +kernel), List.mem_of_getElem? (i := 373) (by decide +kernel)⟩
theorem lw_p6 : lw_okq (⟨"LidForEach$Text", "byteAt", "(I)I"⟩, 8) := ⟨⟨by decide +kernel, by decide +kernel⟩, List.mem_of_getElem? (i := 85) (by decide +kernel), List.mem_of_getElem? (i := 433) (by decide +kernel), List.mem_of_getElem? (i := 434) (by decide +kernel)⟩
theorem lw_p7 : lw_okq (⟨"LidForEach$Text", "advanceOverWord", "()V"⟩, 8) := ⟨⟨by decide +kernel, by decide +kernel⟩, List.mem_of_getElem? (i := 85) (by decide +kernel), List.mem_of_getElem? (i := 440) (by decide +kernel), List.mem_of_getElem? (i := 441) (by decide +kernel)⟩
theorem lw_p8 : lw_okq (⟨"LidForEach$Text", "wordNumber", "()I"⟩, 8) := ⟨⟨by decide +kernel, by decide +kernel⟩, List.mem_of_getElem? (i := 85) (by decide +kernel), List.mem_of_getElem? (i := 444) (by decide +kernel), List.mem_of_getElem? (i := 445) (by decide +kernel)⟩
theorem lw_p9 : lw_okq (⟨"LidForEach$Text", "spells", "(Ljava/lang/String;)Z"⟩, 8) := ⟨⟨by decide +kernel, by decide +kernel⟩, List.mem_of_getElem? (i := 85) (by decide +kernel), List.mem_of_getElem? (i := 456) (by decide +kernel), List.mem_of_getElem? (i := 457) (by decide +kernel)⟩
theorem lw_p10 : lw_okq (⟨"LidForEach$Text", "advanceOverNumber", "()V"⟩, 8) := ⟨⟨by decide +kernel, by decide +kernel⟩, List.mem_of_getElem? (i := 85) (by decide +kernel), List.mem_of_getElem? (i := 511) (by decide +kernel), List.mem_of_getElem? (i := 512) (by decide +kernel)⟩
theorem lw_p11 : lw_okq (⟨"LidForEach", "tellItem", "(LLidForEach$Cupboard;)I"⟩, 14) := ⟨⟨by decide +kernel, by decide +kernel⟩, List.mem_of_getElem? (i := 20) (by decide +kernel), List.mem_of_getElem? (i := 531) (by decide +kernel), List.mem_of_getElem? (i := 532) (by decide +kernel)⟩
theorem lw_p12 : lw_okq (⟨"LidForEach", "pairLids", "(Z)V"⟩, 14) := ⟨⟨by decide +kernel, by decide +kernel⟩, List.mem_of_getElem? (i := 20) (by decide +kernel), List.mem_of_getElem? (i := 563) (by decide +kernel), List.mem_of_getElem? (i := 564) (by decide +kernel)⟩
theorem lw_p13 : lw_okq (⟨"LidForEach$Pairs", "bestOf", "(II)I"⟩, 5) := ⟨⟨by decide +kernel, by decide +kernel⟩, List.mem_of_getElem? (i := 117) (by decide +kernel), List.mem_of_getElem? (i := 584) (by decide +kernel), List.mem_of_getElem? (i := 585) (by decide +kernel)⟩
theorem lw_p14 : lw_okq (⟨"LidForEach$Pairs", "bestFrom", "(II)I"⟩, 5) := ⟨⟨by decide +kernel, by decide +kernel⟩, List.mem_of_getElem? (i := 117) (by decide +kernel), List.mem_of_getElem? (i := 588) (by decide +kernel), List.mem_of_getElem? (i := 589) (by decide +kernel)⟩
theorem lw_p15 : lw_okq (⟨"LidForEach$Pairs", "bestWith", "(III)I"⟩, 5) := ⟨⟨by decide +kernel, by decide +kernel⟩, List.mem_of_getElem? (i := 117) (by decide +kernel), List.mem_of_getElem? (i := 593) (by decide +kernel), List.mem_of_getElem? (i := 594) (by decide +kernel)⟩
def lw_privs_1 : List (MethodName × Nat) := [(⟨"LidForEach$Table", "isCell", "(II)Z"⟩, 4), (⟨"LidForEach", "told", "(I)I"⟩, 14), (⟨"LidForEach$Cupboard", "rowFits", "(LLidForEach$Table;II)Z"⟩, 6), (⟨"LidForEach$Cupboard", "boxUnder", "(I)I"⟩, 6), (⟨"LidForEach$Cupboard", "remember", "(III)V"⟩, 6), (⟨"LidForEach", "badToldApart", "()I"⟩, 14), (⟨"LidForEach$Text", "byteAt", "(I)I"⟩, 8), (⟨"LidForEach$Text", "advanceOverWord", "()V"⟩, 8), (⟨"LidForEach$Text", "wordNumber", "()I"⟩, 8), (⟨"LidForEach$Text", "spells", "(Ljava/lang/String;)Z"⟩, 8), (⟨"LidForEach$Text", "advanceOverNumber", "()V"⟩, 8), (⟨"LidForEach", "tellItem", "(LLidForEach$Cupboard;)I"⟩, 14), (⟨"LidForEach", "pairLids", "(Z)V"⟩, 14), (⟨"LidForEach$Pairs", "bestOf", "(II)I"⟩, 5), (⟨"LidForEach$Pairs", "bestFrom", "(II)I"⟩, 5), (⟨"LidForEach$Pairs", "bestWith", "(III)I"⟩, 5)]
theorem lw_r1 : ∀ q ∈ lw_privs_1, lw_okq q := List.forall_mem_cons.mpr ⟨lw_p0, List.forall_mem_cons.mpr ⟨lw_p1, List.forall_mem_cons.mpr ⟨lw_p2, List.forall_mem_cons.mpr ⟨lw_p3, List.forall_mem_cons.mpr ⟨lw_p4, List.forall_mem_cons.mpr ⟨lw_p5, List.forall_mem_cons.mpr ⟨lw_p6, List.forall_mem_cons.mpr ⟨lw_p7, List.forall_mem_cons.mpr ⟨lw_p8, List.forall_mem_cons.mpr ⟨lw_p9, List.forall_mem_cons.mpr ⟨lw_p10, List.forall_mem_cons.mpr ⟨lw_p11, List.forall_mem_cons.mpr ⟨lw_p12, List.forall_mem_cons.mpr ⟨lw_p13, List.forall_mem_cons.mpr ⟨lw_p14, List.forall_mem_cons.mpr ⟨lw_p15, fun _ h => absurd h List.not_mem_nil⟩⟩⟩⟩⟩⟩⟩⟩⟩⟩⟩⟩⟩⟩⟩⟩
theorem lw_p16 : lw_okq (⟨"LidForEach$Pairs", "leastColumn", "(II)I"⟩, 5) := ⟨⟨by decide +kernel, by decide +kernel⟩, List.mem_of_getElem? (i := 117) (by decide +kernel), List.mem_of_getElem? (i := 605) (by decide +kernel), List.mem_of_getElem? (i := 606) (by decide +kernel)⟩
theorem lw_p17 : lw_okq (⟨"LidForEach$Crowds", "lackOf", "(I)I"⟩, 3) := ⟨⟨by decide +kernel, by decide +kernel⟩, List.mem_of_getElem? (i := 139) (by decide +kernel), List.mem_of_getElem? (i := 620) (by decide +kernel), List.mem_of_getElem? (i := 621) (by decide +kernel)⟩
theorem lw_p18 : lw_okq (⟨"LidForEach$Crowds", "areLiddedWithoutOne", "(I)Z"⟩, 3) := ⟨⟨by decide +kernel, by decide +kernel⟩, List.mem_of_getElem? (i := 139) (by decide +kernel), List.mem_of_getElem? (i := 631) (by decide +kernel), List.mem_of_getElem? (i := 632) (by decide +kernel)⟩
theorem lw_p19 : lw_okq (⟨"LidForEach$Cupboard", "goesInto", "(II)Z"⟩, 6) := ⟨⟨by decide +kernel, by decide +kernel⟩, List.mem_of_getElem? (i := 28) (by decide +kernel), List.mem_of_getElem? (i := 674) (by decide +kernel), List.mem_of_getElem? (i := 675) (by decide +kernel)⟩
theorem lw_p20 : lw_okq (⟨"LidForEach", "shelfCost", "(I)I"⟩, 14) := ⟨⟨by decide +kernel, by decide +kernel⟩, List.mem_of_getElem? (i := 20) (by decide +kernel), List.mem_of_getElem? (i := 690) (by decide +kernel), List.mem_of_getElem? (i := 691) (by decide +kernel)⟩
theorem lw_p21 : lw_okq (⟨"LidForEach$Ranking", "placeOf", "(I)I"⟩, 2) := ⟨⟨by decide +kernel, by decide +kernel⟩, List.mem_of_getElem? (i := 156) (by decide +kernel), List.mem_of_getElem? (i := 698) (by decide +kernel), List.mem_of_getElem? (i := 699) (by decide +kernel)⟩
theorem lw_p22 : lw_okq (⟨"LidForEach", "leastPurchase", "()I"⟩, 14) := ⟨⟨by decide +kernel, by decide +kernel⟩, List.mem_of_getElem? (i := 20) (by decide +kernel), List.mem_of_getElem? (i := 706) (by decide +kernel), List.mem_of_getElem? (i := 707) (by decide +kernel)⟩
theorem lw_p23 : lw_okq (⟨"LidForEach", "rankTries", "()V"⟩, 14) := ⟨⟨by decide +kernel, by decide +kernel⟩, List.mem_of_getElem? (i := 20) (by decide +kernel), List.mem_of_getElem? (i := 725) (by decide +kernel), List.mem_of_getElem? (i := 726) (by decide +kernel)⟩
theorem lw_p24 : lw_okq (⟨"LidForEach", "meanOfTries", "()V"⟩, 14) := ⟨⟨by decide +kernel, by decide +kernel⟩, List.mem_of_getElem? (i := 20) (by decide +kernel), List.mem_of_getElem? (i := 733) (by decide +kernel), List.mem_of_getElem? (i := 734) (by decide +kernel)⟩
theorem lw_p25 : lw_okq (⟨"LidForEach", "meanOfNuts", "(II)V"⟩, 14) := ⟨⟨by decide +kernel, by decide +kernel⟩, List.mem_of_getElem? (i := 20) (by decide +kernel), List.mem_of_getElem? (i := 752) (by decide +kernel), List.mem_of_getElem? (i := 753) (by decide +kernel)⟩
theorem lw_p26 : lw_okq (⟨"LidForEach$Foods", "heed", "(III)V"⟩, 9) := ⟨⟨by decide +kernel, by decide +kernel⟩, List.mem_of_getElem? (i := 169) (by decide +kernel), List.mem_of_getElem? (i := 805) (by decide +kernel), List.mem_of_getElem? (i := 806) (by decide +kernel)⟩
theorem lw_p27 : lw_okq (⟨"LidForEach$Foods", "mayBeIn", "(III)Z"⟩, 9) := ⟨⟨by decide +kernel, by decide +kernel⟩, List.mem_of_getElem? (i := 169) (by decide +kernel), List.mem_of_getElem? (i := 816) (by decide +kernel), List.mem_of_getElem? (i := 817) (by decide +kernel)⟩
theorem lw_p28 : lw_okq (⟨"LidForEach$Foods", "agreesBySize", "(III)Z"⟩, 9) := ⟨⟨by decide +kernel, by decide +kernel⟩, List.mem_of_getElem? (i := 169) (by decide +kernel), List.mem_of_getElem? (i := 820) (by decide +kernel), List.mem_of_getElem? (i := 821) (by decide +kernel)⟩
theorem lw_p29 : lw_okq (⟨"LidForEach$Foods", "sizeAt", "(I)I"⟩, 9) := ⟨⟨by decide +kernel, by decide +kernel⟩, List.mem_of_getElem? (i := 169) (by decide +kernel), List.mem_of_getElem? (i := 824) (by decide +kernel), List.mem_of_getElem? (i := 825) (by decide +kernel)⟩
theorem lw_p30 : lw_okq (⟨"LidForEach$Foods", "waysWith", "(II)I"⟩, 9) := ⟨⟨by decide +kernel, by decide +kernel⟩, List.mem_of_getElem? (i := 169) (by decide +kernel), List.mem_of_getElem? (i := 836) (by decide +kernel), List.mem_of_getElem? (i := 837) (by decide +kernel)⟩
theorem lw_p31 : lw_okq (⟨"LidForEach$Foods", "worstBehind", "(I)I"⟩, 9) := ⟨⟨by decide +kernel, by decide +kernel⟩, List.mem_of_getElem? (i := 169) (by decide +kernel), List.mem_of_getElem? (i := 845) (by decide +kernel), List.mem_of_getElem? (i := 846) (by decide +kernel)⟩
def lw_privs_2 : List (MethodName × Nat) := [(⟨"LidForEach$Pairs", "leastColumn", "(II)I"⟩, 5), (⟨"LidForEach$Crowds", "lackOf", "(I)I"⟩, 3), (⟨"LidForEach$Crowds", "areLiddedWithoutOne", "(I)Z"⟩, 3), (⟨"LidForEach$Cupboard", "goesInto", "(II)Z"⟩, 6), (⟨"LidForEach", "shelfCost", "(I)I"⟩, 14), (⟨"LidForEach$Ranking", "placeOf", "(I)I"⟩, 2), (⟨"LidForEach", "leastPurchase", "()I"⟩, 14), (⟨"LidForEach", "rankTries", "()V"⟩, 14), (⟨"LidForEach", "meanOfTries", "()V"⟩, 14), (⟨"LidForEach", "meanOfNuts", "(II)V"⟩, 14), (⟨"LidForEach$Foods", "heed", "(III)V"⟩, 9), (⟨"LidForEach$Foods", "mayBeIn", "(III)Z"⟩, 9), (⟨"LidForEach$Foods", "agreesBySize", "(III)Z"⟩, 9), (⟨"LidForEach$Foods", "sizeAt", "(I)I"⟩, 9), (⟨"LidForEach$Foods", "waysWith", "(II)I"⟩, 9), (⟨"LidForEach$Foods", "worstBehind", "(I)I"⟩, 9)]
theorem lw_r2 : ∀ q ∈ lw_privs_2, lw_okq q := List.forall_mem_cons.mpr ⟨lw_p16, List.forall_mem_cons.mpr ⟨lw_p17, List.forall_mem_cons.mpr ⟨lw_p18, List.forall_mem_cons.mpr ⟨lw_p19, List.forall_mem_cons.mpr ⟨lw_p20, List.forall_mem_cons.mpr ⟨lw_p21, List.forall_mem_cons.mpr ⟨lw_p22, List.forall_mem_cons.mpr ⟨lw_p23, List.forall_mem_cons.mpr ⟨lw_p24, List.forall_mem_cons.mpr ⟨lw_p25, List.forall_mem_cons.mpr ⟨lw_p26, List.forall_mem_cons.mpr ⟨lw_p27, List.forall_mem_cons.mpr ⟨lw_p28, List.forall_mem_cons.mpr ⟨lw_p29, List.forall_mem_cons.mpr ⟨lw_p30, List.forall_mem_cons.mpr ⟨lw_p31, fun _ h => absurd h List.not_mem_nil⟩⟩⟩⟩⟩⟩⟩⟩⟩⟩⟩⟩⟩⟩⟩⟩
theorem lw_p32 : lw_okq (⟨"LidForEach", "imageAt", "(I)LLidForEach$Cupboard;"⟩, 14) := ⟨⟨by decide +kernel, by decide +kernel⟩, List.mem_of_getElem? (i := 20) (by decide +kernel), List.mem_of_getElem? (i := 875) (by decide +kernel), List.mem_of_getElem? (i := 876) (by decide +kernel)⟩
theorem lw_p33 : lw_okq (⟨"LidForEach", "howMany", "(I)I"⟩, 14) := ⟨⟨by decide +kernel, by decide +kernel⟩, List.mem_of_getElem? (i := 20) (by decide +kernel), List.mem_of_getElem? (i := 891) (by decide +kernel), List.mem_of_getElem? (i := 892) (by decide +kernel)⟩
theorem lw_p34 : lw_okq (⟨"LidForEachModel", "addBox", "(III)I"⟩, 24) := ⟨⟨by decide +kernel, by decide +kernel⟩, List.mem_of_getElem? (i := 915) (by decide +kernel), List.mem_of_getElem? (i := 998) (by decide +kernel), List.mem_of_getElem? (i := 999) (by decide +kernel)⟩
theorem lw_p35 : lw_okq (⟨"LidForEachModel", "get", "(I)I"⟩, 24) := ⟨⟨by decide +kernel, by decide +kernel⟩, List.mem_of_getElem? (i := 915) (by decide +kernel), List.mem_of_getElem? (i := 1005) (by decide +kernel), List.mem_of_getElem? (i := 1006) (by decide +kernel)⟩
theorem lw_p36 : lw_okq (⟨"LidForEachModel", "put1", "(II)V"⟩, 24) := ⟨⟨by decide +kernel, by decide +kernel⟩, List.mem_of_getElem? (i := 915) (by decide +kernel), List.mem_of_getElem? (i := 1009) (by decide +kernel), List.mem_of_getElem? (i := 1010) (by decide +kernel)⟩
theorem lw_p37 : lw_okq (⟨"LidForEachModel", "told", "(I)I"⟩, 24) := ⟨⟨by decide +kernel, by decide +kernel⟩, List.mem_of_getElem? (i := 915) (by decide +kernel), List.mem_of_getElem? (i := 1013) (by decide +kernel), List.mem_of_getElem? (i := 1014) (by decide +kernel)⟩
theorem lw_p38 : lw_okq (⟨"LidForEachModel", "addLid", "(III)I"⟩, 24) := ⟨⟨by decide +kernel, by decide +kernel⟩, List.mem_of_getElem? (i := 915) (by decide +kernel), List.mem_of_getElem? (i := 1021) (by decide +kernel), List.mem_of_getElem? (i := 1022) (by decide +kernel)⟩
theorem lw_p39 : lw_okq (⟨"LidForEachModel", "putOn", "(II)I"⟩, 24) := ⟨⟨by decide +kernel, by decide +kernel⟩, List.mem_of_getElem? (i := 915) (by decide +kernel), List.mem_of_getElem? (i := 1029) (by decide +kernel), List.mem_of_getElem? (i := 1030) (by decide +kernel)⟩
theorem lw_p40 : lw_okq (⟨"LidForEachModel", "isLid", "(I)Z"⟩, 24) := ⟨⟨by decide +kernel, by decide +kernel⟩, List.mem_of_getElem? (i := 915) (by decide +kernel), List.mem_of_getElem? (i := 1033) (by decide +kernel), List.mem_of_getElem? (i := 1034) (by decide +kernel)⟩
theorem lw_p41 : lw_okq (⟨"LidForEachModel", "isBox", "(I)Z"⟩, 24) := ⟨⟨by decide +kernel, by decide +kernel⟩, List.mem_of_getElem? (i := 915) (by decide +kernel), List.mem_of_getElem? (i := 1037) (by decide +kernel), List.mem_of_getElem? (i := 1038) (by decide +kernel)⟩
theorem lw_p42 : lw_okq (⟨"LidForEachModel", "doesFit", "(II)Z"⟩, 24) := ⟨⟨by decide +kernel, by decide +kernel⟩, List.mem_of_getElem? (i := 915) (by decide +kernel), List.mem_of_getElem? (i := 1041) (by decide +kernel), List.mem_of_getElem? (i := 1042) (by decide +kernel)⟩
theorem lw_p43 : lw_okq (⟨"LidForEachModel", "ofLid", "(II)I"⟩, 24) := ⟨⟨by decide +kernel, by decide +kernel⟩, List.mem_of_getElem? (i := 915) (by decide +kernel), List.mem_of_getElem? (i := 1045) (by decide +kernel), List.mem_of_getElem? (i := 1046) (by decide +kernel)⟩
theorem lw_p44 : lw_okq (⟨"LidForEachModel", "fitsAs", "(IIII)Z"⟩, 24) := ⟨⟨by decide +kernel, by decide +kernel⟩, List.mem_of_getElem? (i := 915) (by decide +kernel), List.mem_of_getElem? (i := 1049) (by decide +kernel), List.mem_of_getElem? (i := 1050) (by decide +kernel)⟩
theorem lw_p45 : lw_okq (⟨"LidForEachModel", "ofBox", "(II)I"⟩, 24) := ⟨⟨by decide +kernel, by decide +kernel⟩, List.mem_of_getElem? (i := 915) (by decide +kernel), List.mem_of_getElem? (i := 1053) (by decide +kernel), List.mem_of_getElem? (i := 1054) (by decide +kernel)⟩
theorem lw_p46 : lw_okq (⟨"LidForEachModel", "isPlain", "(III)Z"⟩, 24) := ⟨⟨by decide +kernel, by decide +kernel⟩, List.mem_of_getElem? (i := 915) (by decide +kernel), List.mem_of_getElem? (i := 1057) (by decide +kernel), List.mem_of_getElem? (i := 1058) (by decide +kernel)⟩
theorem lw_p47 : lw_okq (⟨"LidForEachModel", "boxOf", "(I)I"⟩, 24) := ⟨⟨by decide +kernel, by decide +kernel⟩, List.mem_of_getElem? (i := 915) (by decide +kernel), List.mem_of_getElem? (i := 1061) (by decide +kernel), List.mem_of_getElem? (i := 1062) (by decide +kernel)⟩
def lw_privs_3 : List (MethodName × Nat) := [(⟨"LidForEach", "imageAt", "(I)LLidForEach$Cupboard;"⟩, 14), (⟨"LidForEach", "howMany", "(I)I"⟩, 14), (⟨"LidForEachModel", "addBox", "(III)I"⟩, 24), (⟨"LidForEachModel", "get", "(I)I"⟩, 24), (⟨"LidForEachModel", "put1", "(II)V"⟩, 24), (⟨"LidForEachModel", "told", "(I)I"⟩, 24), (⟨"LidForEachModel", "addLid", "(III)I"⟩, 24), (⟨"LidForEachModel", "putOn", "(II)I"⟩, 24), (⟨"LidForEachModel", "isLid", "(I)Z"⟩, 24), (⟨"LidForEachModel", "isBox", "(I)Z"⟩, 24), (⟨"LidForEachModel", "doesFit", "(II)Z"⟩, 24), (⟨"LidForEachModel", "ofLid", "(II)I"⟩, 24), (⟨"LidForEachModel", "fitsAs", "(IIII)Z"⟩, 24), (⟨"LidForEachModel", "ofBox", "(II)I"⟩, 24), (⟨"LidForEachModel", "isPlain", "(III)Z"⟩, 24), (⟨"LidForEachModel", "boxOf", "(I)I"⟩, 24)]
theorem lw_r3 : ∀ q ∈ lw_privs_3, lw_okq q := List.forall_mem_cons.mpr ⟨lw_p32, List.forall_mem_cons.mpr ⟨lw_p33, List.forall_mem_cons.mpr ⟨lw_p34, List.forall_mem_cons.mpr ⟨lw_p35, List.forall_mem_cons.mpr ⟨lw_p36, List.forall_mem_cons.mpr ⟨lw_p37, List.forall_mem_cons.mpr ⟨lw_p38, List.forall_mem_cons.mpr ⟨lw_p39, List.forall_mem_cons.mpr ⟨lw_p40, List.forall_mem_cons.mpr ⟨lw_p41, List.forall_mem_cons.mpr ⟨lw_p42, List.forall_mem_cons.mpr ⟨lw_p43, List.forall_mem_cons.mpr ⟨lw_p44, List.forall_mem_cons.mpr ⟨lw_p45, List.forall_mem_cons.mpr ⟨lw_p46, List.forall_mem_cons.mpr ⟨lw_p47, fun _ h => absurd h List.not_mem_nil⟩⟩⟩⟩⟩⟩⟩⟩⟩⟩⟩⟩⟩⟩⟩⟩
theorem lw_p48 : lw_okq (⟨"LidForEachModel", "know", "()V"⟩, 24) := ⟨⟨by decide +kernel, by decide +kernel⟩, List.mem_of_getElem? (i := 915) (by decide +kernel), List.mem_of_getElem? (i := 1065) (by decide +kernel), List.mem_of_getElem? (i := 1066) (by decide +kernel)⟩
theorem lw_p49 : lw_okq (⟨"LidForEachModel", "bad10", "()I"⟩, 24) := ⟨⟨by decide +kernel, by decide +kernel⟩, List.mem_of_getElem? (i := 915) (by decide +kernel), List.mem_of_getElem? (i := 1081) (by decide +kernel), List.mem_of_getElem? (i := 1082) (by decide +kernel)⟩
theorem lw_p50 : lw_okq (⟨"LidForEachModel", "setGrasp", "(II)I"⟩, 24) := ⟨⟨by decide +kernel, by decide +kernel⟩, List.mem_of_getElem? (i := 915) (by decide +kernel), List.mem_of_getElem? (i := 1089) (by decide +kernel), List.mem_of_getElem? (i := 1090) (by decide +kernel)⟩
theorem lw_p51 : lw_okq (⟨"LidForEachModel", "addSort", "(IIII)I"⟩, 24) := ⟨⟨by decide +kernel, by decide +kernel⟩, List.mem_of_getElem? (i := 915) (by decide +kernel), List.mem_of_getElem? (i := 1097) (by decide +kernel), List.mem_of_getElem? (i := 1098) (by decide +kernel)⟩
theorem lw_p52 : lw_okq (⟨"LidForEachModel", "next", "()V"⟩, 24) := ⟨⟨by decide +kernel, by decide +kernel⟩, List.mem_of_getElem? (i := 915) (by decide +kernel), List.mem_of_getElem? (i := 1117) (by decide +kernel), List.mem_of_getElem? (i := 1118) (by decide +kernel)⟩
theorem lw_p53 : lw_okq (⟨"LidForEachModel", "here", "()I"⟩, 24) := ⟨⟨by decide +kernel, by decide +kernel⟩, List.mem_of_getElem? (i := 915) (by decide +kernel), List.mem_of_getElem? (i := 1121) (by decide +kernel), List.mem_of_getElem? (i := 1122) (by decide +kernel)⟩
theorem lw_p54 : lw_okq (⟨"LidForEachModel", "due", "(Z)V"⟩, 24) := ⟨⟨by decide +kernel, by decide +kernel⟩, List.mem_of_getElem? (i := 915) (by decide +kernel), List.mem_of_getElem? (i := 1128) (by decide +kernel), List.mem_of_getElem? (i := 1129) (by decide +kernel)⟩
theorem lw_p55 : lw_okq (⟨"LidForEachModel", "doItem", "(I)I"⟩, 24) := ⟨⟨by decide +kernel, by decide +kernel⟩, List.mem_of_getElem? (i := 915) (by decide +kernel), List.mem_of_getElem? (i := 1132) (by decide +kernel), List.mem_of_getElem? (i := 1133) (by decide +kernel)⟩
theorem lw_p56 : lw_okq (⟨"LidForEachModel", "copy", "(II)V"⟩, 24) := ⟨⟨by decide +kernel, by decide +kernel⟩, List.mem_of_getElem? (i := 915) (by decide +kernel), List.mem_of_getElem? (i := 1136) (by decide +kernel), List.mem_of_getElem? (i := 1137) (by decide +kernel)⟩
theorem lw_p57 : lw_okq (⟨"LidForEachModel", "findFits", "()V"⟩, 24) := ⟨⟨by decide +kernel, by decide +kernel⟩, List.mem_of_getElem? (i := 915) (by decide +kernel), List.mem_of_getElem? (i := 1144) (by decide +kernel), List.mem_of_getElem? (i := 1145) (by decide +kernel)⟩
theorem lw_p58 : lw_okq (⟨"LidForEachModel", "boxes", "()I"⟩, 24) := ⟨⟨by decide +kernel, by decide +kernel⟩, List.mem_of_getElem? (i := 915) (by decide +kernel), List.mem_of_getElem? (i := 1152) (by decide +kernel), List.mem_of_getElem? (i := 1153) (by decide +kernel)⟩
theorem lw_p59 : lw_okq (⟨"LidForEachModel", "lids", "()I"⟩, 24) := ⟨⟨by decide +kernel, by decide +kernel⟩, List.mem_of_getElem? (i := 915) (by decide +kernel), List.mem_of_getElem? (i := 1156) (by decide +kernel), List.mem_of_getElem? (i := 1157) (by decide +kernel)⟩
theorem lw_p60 : lw_okq (⟨"LidForEachModel", "findFirst", "(II)I"⟩, 24) := ⟨⟨by decide +kernel, by decide +kernel⟩, List.mem_of_getElem? (i := 915) (by decide +kernel), List.mem_of_getElem? (i := 1160) (by decide +kernel), List.mem_of_getElem? (i := 1161) (by decide +kernel)⟩
theorem lw_p61 : lw_okq (⟨"LidForEachModel", "mostOf", "(II)I"⟩, 24) := ⟨⟨by decide +kernel, by decide +kernel⟩, List.mem_of_getElem? (i := 915) (by decide +kernel), List.mem_of_getElem? (i := 1164) (by decide +kernel), List.mem_of_getElem? (i := 1165) (by decide +kernel)⟩
theorem lw_p62 : lw_okq (⟨"LidForEachModel", "sumOf", "(II)I"⟩, 24) := ⟨⟨by decide +kernel, by decide +kernel⟩, List.mem_of_getElem? (i := 915) (by decide +kernel), List.mem_of_getElem? (i := 1179) (by decide +kernel), List.mem_of_getElem? (i := 1180) (by decide +kernel)⟩
theorem lw_p63 : lw_okq (⟨"LidForEachModel", "isCovered", "(II)Z"⟩, 24) := ⟨⟨by decide +kernel, by decide +kernel⟩, List.mem_of_getElem? (i := 915) (by decide +kernel), List.mem_of_getElem? (i := 1183) (by decide +kernel), List.mem_of_getElem? (i := 1184) (by decide +kernel)⟩
def lw_privs_4 : List (MethodName × Nat) := [(⟨"LidForEachModel", "know", "()V"⟩, 24), (⟨"LidForEachModel", "bad10", "()I"⟩, 24), (⟨"LidForEachModel", "setGrasp", "(II)I"⟩, 24), (⟨"LidForEachModel", "addSort", "(IIII)I"⟩, 24), (⟨"LidForEachModel", "next", "()V"⟩, 24), (⟨"LidForEachModel", "here", "()I"⟩, 24), (⟨"LidForEachModel", "due", "(Z)V"⟩, 24), (⟨"LidForEachModel", "doItem", "(I)I"⟩, 24), (⟨"LidForEachModel", "copy", "(II)V"⟩, 24), (⟨"LidForEachModel", "findFits", "()V"⟩, 24), (⟨"LidForEachModel", "boxes", "()I"⟩, 24), (⟨"LidForEachModel", "lids", "()I"⟩, 24), (⟨"LidForEachModel", "findFirst", "(II)I"⟩, 24), (⟨"LidForEachModel", "mostOf", "(II)I"⟩, 24), (⟨"LidForEachModel", "sumOf", "(II)I"⟩, 24), (⟨"LidForEachModel", "isCovered", "(II)Z"⟩, 24)]
theorem lw_r4 : ∀ q ∈ lw_privs_4, lw_okq q := List.forall_mem_cons.mpr ⟨lw_p48, List.forall_mem_cons.mpr ⟨lw_p49, List.forall_mem_cons.mpr ⟨lw_p50, List.forall_mem_cons.mpr ⟨lw_p51, List.forall_mem_cons.mpr ⟨lw_p52, List.forall_mem_cons.mpr ⟨lw_p53, List.forall_mem_cons.mpr ⟨lw_p54, List.forall_mem_cons.mpr ⟨lw_p55, List.forall_mem_cons.mpr ⟨lw_p56, List.forall_mem_cons.mpr ⟨lw_p57, List.forall_mem_cons.mpr ⟨lw_p58, List.forall_mem_cons.mpr ⟨lw_p59, List.forall_mem_cons.mpr ⟨lw_p60, List.forall_mem_cons.mpr ⟨lw_p61, List.forall_mem_cons.mpr ⟨lw_p62, List.forall_mem_cons.mpr ⟨lw_p63, fun _ h => absurd h List.not_mem_nil⟩⟩⟩⟩⟩⟩⟩⟩⟩⟩⟩⟩⟩⟩⟩⟩
theorem lw_p64 : lw_okq (⟨"LidForEachModel", "muchBy", "(I)I"⟩, 24) := ⟨⟨by decide +kernel, by decide +kernel⟩, List.mem_of_getElem? (i := 915) (by decide +kernel), List.mem_of_getElem? (i := 1191) (by decide +kernel), List.mem_of_getElem? (i := 1192) (by decide +kernel)⟩
theorem lw_p65 : lw_okq (⟨"LidForEachModel", "priceOf", "(I)I"⟩, 24) := ⟨⟨by decide +kernel, by decide +kernel⟩, List.mem_of_getElem? (i := 915) (by decide +kernel), List.mem_of_getElem? (i := 1218) (by decide +kernel), List.mem_of_getElem? (i := 1219) (by decide +kernel)⟩
theorem lw_p66 : lw_okq (⟨"LidForEachModel", "isEnough", "(I)Z"⟩, 24) := ⟨⟨by decide +kernel, by decide +kernel⟩, List.mem_of_getElem? (i := 915) (by decide +kernel), List.mem_of_getElem? (i := 1223) (by decide +kernel), List.mem_of_getElem? (i := 1224) (by decide +kernel)⟩
theorem lw_p67 : lw_okq (⟨"LidForEachModel", "buyOne", "(I)V"⟩, 24) := ⟨⟨by decide +kernel, by decide +kernel⟩, List.mem_of_getElem? (i := 915) (by decide +kernel), List.mem_of_getElem? (i := 1227) (by decide +kernel), List.mem_of_getElem? (i := 1228) (by decide +kernel)⟩
theorem lw_p68 : lw_okq (⟨"LidForEachModel", "firstOrder", "(I)V"⟩, 24) := ⟨⟨by decide +kernel, by decide +kernel⟩, List.mem_of_getElem? (i := 915) (by decide +kernel), List.mem_of_getElem? (i := 1235) (by decide +kernel), List.mem_of_getElem? (i := 1236) (by decide +kernel)⟩
theorem lw_p69 : lw_okq (⟨"LidForEachModel", "meanBy", "(I)J"⟩, 24) := ⟨⟨by decide +kernel, by decide +kernel⟩, List.mem_of_getElem? (i := 915) (by decide +kernel), List.mem_of_getElem? (i := 1240) (by decide +kernel), List.mem_of_getElem? (i := 1241) (by decide +kernel)⟩
theorem lw_p70 : lw_okq (⟨"LidForEachModel", "nextOrder", "(I)Z"⟩, 24) := ⟨⟨by decide +kernel, by decide +kernel⟩, List.mem_of_getElem? (i := 915) (by decide +kernel), List.mem_of_getElem? (i := 1245) (by decide +kernel), List.mem_of_getElem? (i := 1246) (by decide +kernel)⟩
theorem lw_p71 : lw_okq (⟨"LidForEachModel", "fraction", "(JJ)V"⟩, 24) := ⟨⟨by decide +kernel, by decide +kernel⟩, List.mem_of_getElem? (i := 915) (by decide +kernel), List.mem_of_getElem? (i := 1249) (by decide +kernel), List.mem_of_getElem? (i := 1250) (by decide +kernel)⟩
theorem lw_p72 : lw_okq (⟨"LidForEachModel", "whoHas", "(II)I"⟩, 24) := ⟨⟨by decide +kernel, by decide +kernel⟩, List.mem_of_getElem? (i := 915) (by decide +kernel), List.mem_of_getElem? (i := 1265) (by decide +kernel), List.mem_of_getElem? (i := 1266) (by decide +kernel)⟩
theorem lw_p73 : lw_okq (⟨"LidForEachModel", "findWays", "()I"⟩, 24) := ⟨⟨by decide +kernel, by decide +kernel⟩, List.mem_of_getElem? (i := 915) (by decide +kernel), List.mem_of_getElem? (i := 1285) (by decide +kernel), List.mem_of_getElem? (i := 1286) (by decide +kernel)⟩
theorem lw_p74 : lw_okq (⟨"LidForEachModel", "isSo", "()Z"⟩, 24) := ⟨⟨by decide +kernel, by decide +kernel⟩, List.mem_of_getElem? (i := 915) (by decide +kernel), List.mem_of_getElem? (i := 1289) (by decide +kernel), List.mem_of_getElem? (i := 1290) (by decide +kernel)⟩
theorem lw_p75 : lw_okq (⟨"LidForEachModel", "counted", "(I)I"⟩, 24) := ⟨⟨by decide +kernel, by decide +kernel⟩, List.mem_of_getElem? (i := 915) (by decide +kernel), List.mem_of_getElem? (i := 1322) (by decide +kernel), List.mem_of_getElem? (i := 1323) (by decide +kernel)⟩
theorem lw_p76 : lw_okq (⟨"LidForEachModel", "digested", "(JII)J"⟩, 24) := ⟨⟨by decide +kernel, by decide +kernel⟩, List.mem_of_getElem? (i := 915) (by decide +kernel), List.mem_of_getElem? (i := 1332) (by decide +kernel), List.mem_of_getElem? (i := 1333) (by decide +kernel)⟩
def lw_privs_5 : List (MethodName × Nat) := [(⟨"LidForEachModel", "muchBy", "(I)I"⟩, 24), (⟨"LidForEachModel", "priceOf", "(I)I"⟩, 24), (⟨"LidForEachModel", "isEnough", "(I)Z"⟩, 24), (⟨"LidForEachModel", "buyOne", "(I)V"⟩, 24), (⟨"LidForEachModel", "firstOrder", "(I)V"⟩, 24), (⟨"LidForEachModel", "meanBy", "(I)J"⟩, 24), (⟨"LidForEachModel", "nextOrder", "(I)Z"⟩, 24), (⟨"LidForEachModel", "fraction", "(JJ)V"⟩, 24), (⟨"LidForEachModel", "whoHas", "(II)I"⟩, 24), (⟨"LidForEachModel", "findWays", "()I"⟩, 24), (⟨"LidForEachModel", "isSo", "()Z"⟩, 24), (⟨"LidForEachModel", "counted", "(I)I"⟩, 24), (⟨"LidForEachModel", "digested", "(JII)J"⟩, 24)]
theorem lw_r5 : ∀ q ∈ lw_privs_5, lw_okq q := List.forall_mem_cons.mpr ⟨lw_p64, List.forall_mem_cons.mpr ⟨lw_p65, List.forall_mem_cons.mpr ⟨lw_p66, List.forall_mem_cons.mpr ⟨lw_p67, List.forall_mem_cons.mpr ⟨lw_p68, List.forall_mem_cons.mpr ⟨lw_p69, List.forall_mem_cons.mpr ⟨lw_p70, List.forall_mem_cons.mpr ⟨lw_p71, List.forall_mem_cons.mpr ⟨lw_p72, List.forall_mem_cons.mpr ⟨lw_p73, List.forall_mem_cons.mpr ⟨lw_p74, List.forall_mem_cons.mpr ⟨lw_p75, List.forall_mem_cons.mpr ⟨lw_p76, fun _ h => absurd h List.not_mem_nil⟩⟩⟩⟩⟩⟩⟩⟩⟩⟩⟩⟩⟩
def lw_privs : List (MethodName × Nat) := lw_privs_1 ++ (lw_privs_2 ++ (lw_privs_3 ++ (lw_privs_4 ++ (lw_privs_5))))
def lw_tbl : List Cond := k2_sels lw_privs ++ tables_1
theorem lw_privs_ok : ∀ q ∈ lw_privs, lw_okq q := by
  show ∀ q ∈ lw_privs_1 ++ (lw_privs_2 ++ (lw_privs_3 ++ (lw_privs_4 ++ (lw_privs_5)))), lw_okq q
  exact List.forall_mem_append.mpr ⟨lw_r1, List.forall_mem_append.mpr ⟨lw_r2, List.forall_mem_append.mpr ⟨lw_r3, List.forall_mem_append.mpr ⟨lw_r4, lw_r5⟩⟩⟩⟩
end
section
def RX0 : String := "LidForEach$Crowds"
def TX0 : u_T := fun k => match k with
  | 0 => ("LidForEach$Crowds", "reach", "[I", true)
  | 1 => ("LidForEach$Crowds", "lidded", "[Z", true)
  | _ => ("LidForEach$Crowds", "sets", "I", false)
def tyX0 : Nat → FieldType := fun k => match k with
  | 0 => .array .int
  | 1 => .array .boolean
  | _ => .int
abbrev wsX00 : List Cond := u_ws RX0 TX0 3
theorem nmX0 : ∀ a, a < 3 → ∀ b, b < 3 → a ≠ b → (TX0 a).2.1 ≠ (TX0 b).2.1 := by decide +kernel
theorem tyX0_ok : ∀ k, k < 3 → parseFieldDescriptor (TX0 k).2.2.1 = some (tyX0 k) := by decide +kernel
abbrev cX0_init : ByteArray := prog_2_method_1_code
def yX0_init : MethodName := ⟨RX0, "<init>", "()V"⟩
abbrev cX0_lookAt : ByteArray := prog_2_method_2_code
def yX0_lookAt : MethodName := ⟨RX0, "lookAt", "(LLidForEach$Cupboard;)V"⟩
abbrev cX0_lackOf : ByteArray := prog_2_method_3_code
def yX0_lackOf : MethodName := ⟨RX0, "lackOf", "(I)I"⟩
abbrev cX0_areLiddedWithoutOne : ByteArray := prog_2_method_4_code
def yX0_areLiddedWithoutOne : MethodName := ⟨RX0, "areLiddedWithoutOne", "(I)Z"⟩
abbrev cX0_shortest : ByteArray := prog_2_method_5_code
def yX0_shortest : MethodName := ⟨RX0, "shortest", "()I"⟩
abbrev cX0_leastFor : ByteArray := prog_2_method_6_code
def yX0_leastFor : MethodName := ⟨RX0, "leastFor", "(LLidForEach$Cupboard;I)I"⟩
def RX1 : String := "LidForEach$Cupboard"
def TX1 : u_T := fun k => match k with
  | 0 => ("LidForEach$Cupboard", "boxes", "LLidForEach$Table;", true)
  | 1 => ("LidForEach$Cupboard", "lids", "LLidForEach$Table;", true)
  | 2 => ("LidForEach$Cupboard", "sorts", "LLidForEach$Table;", true)
  | 3 => ("LidForEach$Cupboard", "tales", "LLidForEach$Table;", true)
  | 4 => ("LidForEach$Cupboard", "hints", "LLidForEach$Table;", true)
  | _ => ("LidForEach$Cupboard", "undos", "LLidForEach$Table;", true)
def tyX1 : Nat → FieldType := fun k => match k with
  | 0 => .object "LidForEach$Table"
  | 1 => .object "LidForEach$Table"
  | 2 => .object "LidForEach$Table"
  | 3 => .object "LidForEach$Table"
  | 4 => .object "LidForEach$Table"
  | _ => .object "LidForEach$Table"
abbrev wsX10 : List Cond := u_ws RX1 TX1 6
theorem nmX1 : ∀ a, a < 6 → ∀ b, b < 6 → a ≠ b → (TX1 a).2.1 ≠ (TX1 b).2.1 := by decide +kernel
theorem tyX1_ok : ∀ k, k < 6 → parseFieldDescriptor (TX1 k).2.2.1 = some (tyX1 k) := by decide +kernel
abbrev cX1_init : ByteArray := prog_3_method_1_code
def yX1_init : MethodName := ⟨RX1, "<init>", "()V"⟩
abbrev cX1_empty : ByteArray := prog_3_method_2_code
def yX1_empty : MethodName := ⟨RX1, "empty", "()V"⟩
abbrev cX1_become : ByteArray := prog_3_method_3_code
def yX1_become : MethodName := ⟨RX1, "become", "(LLidForEach$Cupboard;)V"⟩
abbrev cX1_addBox : ByteArray := prog_3_method_4_code
def yX1_addBox : MethodName := ⟨RX1, "addBox", "(III)I"⟩
abbrev cX1_addLid : ByteArray := prog_3_method_5_code
def yX1_addLid : MethodName := ⟨RX1, "addLid", "(III)I"⟩
abbrev cX1_addSort : ByteArray := prog_3_method_6_code
def yX1_addSort : MethodName := ⟨RX1, "addSort", "(IIII)I"⟩
abbrev cX1_isKind : ByteArray := prog_3_method_7_code
def yX1_isKind : MethodName := ⟨RX1, "isKind", "(I)Z"⟩
abbrev cX1_isFormAndSize : ByteArray := prog_3_method_8_code
def yX1_isFormAndSize : MethodName := ⟨RX1, "isFormAndSize", "(II)Z"⟩
abbrev cX1_putOn : ByteArray := prog_3_method_9_code
def yX1_putOn : MethodName := ⟨RX1, "putOn", "(II)I"⟩
abbrev cX1_takeOff : ByteArray := prog_3_method_10_code
def yX1_takeOff : MethodName := ⟨RX1, "takeOff", "(I)I"⟩
abbrev cX1_remember : ByteArray := prog_3_method_11_code
def yX1_remember : MethodName := ⟨RX1, "remember", "(III)V"⟩
abbrev cX1_stepBack : ByteArray := prog_3_method_12_code
def yX1_stepBack : MethodName := ⟨RX1, "stepBack", "()I"⟩
abbrev cX1_boxUnder : ByteArray := prog_3_method_13_code
def yX1_boxUnder : MethodName := ⟨RX1, "boxUnder", "(I)I"⟩
abbrev cX1_lidsInUse : ByteArray := prog_3_method_14_code
def yX1_lidsInUse : MethodName := ⟨RX1, "lidsInUse", "()I"⟩
abbrev cX1_changeGrasps : ByteArray := prog_3_method_15_code
def yX1_changeGrasps : MethodName := ⟨RX1, "changeGrasps", "(II)I"⟩
abbrev cX1_changeChance : ByteArray := prog_3_method_16_code
def yX1_changeChance : MethodName := ⟨RX1, "changeChance", "(II)I"⟩
abbrev cX1_firstSureLid : ByteArray := prog_3_method_17_code
def yX1_firstSureLid : MethodName := ⟨RX1, "firstSureLid", "()I"⟩
abbrev cX1_rowFits : ByteArray := prog_3_method_18_code
def yX1_rowFits : MethodName := ⟨RX1, "rowFits", "(LLidForEach$Table;II)Z"⟩
abbrev cX1_lidsFor : ByteArray := prog_3_method_19_code
def yX1_lidsFor : MethodName := ⟨RX1, "lidsFor", "(I)I"⟩
abbrev cX1_boxesAround : ByteArray := prog_3_method_20_code
def yX1_boxesAround : MethodName := ⟨RX1, "boxesAround", "(I)I"⟩
abbrev cX1_goesInto : ByteArray := prog_3_method_21_code
def yX1_goesInto : MethodName := ⟨RX1, "goesInto", "(II)Z"⟩
abbrev cX1_purchaseFor : ByteArray := prog_3_method_22_code
def yX1_purchaseFor : MethodName := ⟨RX1, "purchaseFor", "(I)I"⟩
abbrev cX1_sumOver : ByteArray := prog_3_method_23_code
def yX1_sumOver : MethodName := ⟨RX1, "sumOver", "(II)I"⟩
abbrev cX1_addTale : ByteArray := prog_3_method_24_code
def yX1_addTale : MethodName := ⟨RX1, "addTale", "(III)I"⟩
abbrev cX1_holderAfter : ByteArray := prog_3_method_25_code
def yX1_holderAfter : MethodName := ⟨RX1, "holderAfter", "(II)I"⟩
abbrev cX1_firstWrongTale : ByteArray := prog_3_method_26_code
def yX1_firstWrongTale : MethodName := ⟨RX1, "firstWrongTale", "()I"⟩
abbrev cX1_addHint : ByteArray := prog_3_method_27_code
def yX1_addHint : MethodName := ⟨RX1, "addHint", "(III)I"⟩
abbrev cX1_openAfter : ByteArray := prog_3_method_28_code
def yX1_openAfter : MethodName := ⟨RX1, "openAfter", "(II)I"⟩
def RX2 : String := "LidForEach$Foods"
def TX2 : u_T := fun k => match k with
  | 0 => ("LidForEach$Foods", "sizes", "[I", true)
  | 1 => ("LidForEach$Foods", "allowed", "[I", true)
  | 2 => ("LidForEach$Foods", "inLesserBoxes", "[I", true)
  | 3 => ("LidForEach$Foods", "inSmallerBoxes", "[I", true)
  | 4 => ("LidForEach$Foods", "inGreaterBoxes", "[I", true)
  | 5 => ("LidForEach$Foods", "places", "[I", true)
  | 6 => ("LidForEach$Foods", "waysByBoxAndFood", "[I", true)
  | 7 => ("LidForEach$Foods", "boxes", "I", false)
  | _ => ("LidForEach$Foods", "ways", "I", false)
def tyX2 : Nat → FieldType := fun k => match k with
  | 0 => .array .int
  | 1 => .array .int
  | 2 => .array .int
  | 3 => .array .int
  | 4 => .array .int
  | 5 => .array .int
  | 6 => .array .int
  | 7 => .int
  | _ => .int
abbrev wsX20 : List Cond := u_ws RX2 TX2 9
theorem nmX2 : ∀ a, a < 9 → ∀ b, b < 9 → a ≠ b → (TX2 a).2.1 ≠ (TX2 b).2.1 := by decide +kernel
theorem tyX2_ok : ∀ k, k < 9 → parseFieldDescriptor (TX2 k).2.2.1 = some (tyX2 k) := by decide +kernel
abbrev cX2_init : ByteArray := prog_4_method_1_code
def yX2_init : MethodName := ⟨RX2, "<init>", "()V"⟩
abbrev cX2_lookAt : ByteArray := prog_4_method_2_code
def yX2_lookAt : MethodName := ⟨RX2, "lookAt", "(LLidForEach$Cupboard;)V"⟩
abbrev cX2_heed : ByteArray := prog_4_method_3_code
def yX2_heed : MethodName := ⟨RX2, "heed", "(III)V"⟩
abbrev cX2_waysFrom : ByteArray := prog_4_method_4_code
def yX2_waysFrom : MethodName := ⟨RX2, "waysFrom", "(LLidForEach$Foods;II)I"⟩
abbrev cX2_mayBeIn : ByteArray := prog_4_method_5_code
def yX2_mayBeIn : MethodName := ⟨RX2, "mayBeIn", "(III)Z"⟩
abbrev cX2_agreesBySize : ByteArray := prog_4_method_6_code
def yX2_agreesBySize : MethodName := ⟨RX2, "agreesBySize", "(III)Z"⟩
abbrev cX2_sizeAt : ByteArray := prog_4_method_7_code
def yX2_sizeAt : MethodName := ⟨RX2, "sizeAt", "(I)I"⟩
abbrev cX2_allWays : ByteArray := prog_4_method_8_code
def yX2_allWays : MethodName := ⟨RX2, "allWays", "()I"⟩
abbrev cX2_waysWith : ByteArray := prog_4_method_9_code
def yX2_waysWith : MethodName := ⟨RX2, "waysWith", "(II)I"⟩
abbrev cX2_boxesOf : ByteArray := prog_4_method_10_code
def yX2_boxesOf : MethodName := ⟨RX2, "boxesOf", "(I)I"⟩
abbrev cX2_boxToOpen : ByteArray := prog_4_method_11_code
def yX2_boxToOpen : MethodName := ⟨RX2, "boxToOpen", "()I"⟩
abbrev cX2_worstBehind : ByteArray := prog_4_method_12_code
def yX2_worstBehind : MethodName := ⟨RX2, "worstBehind", "(I)I"⟩
def RX3 : String := "LidForEach$Fraction"
def TX3 : u_T := fun k => match k with
  | 0 => ("LidForEach$Fraction", "above", "J", false)
  | _ => ("LidForEach$Fraction", "below", "J", false)
def tyX3 : Nat → FieldType := fun k => match k with
  | 0 => .long
  | _ => .long
abbrev wsX30 : List Cond := u_ws RX3 TX3 2
theorem nmX3 : ∀ a, a < 2 → ∀ b, b < 2 → a ≠ b → (TX3 a).2.1 ≠ (TX3 b).2.1 := by decide +kernel
theorem tyX3_ok : ∀ k, k < 2 → parseFieldDescriptor (TX3 k).2.2.1 = some (tyX3 k) := by decide +kernel
abbrev cX3_init : ByteArray := prog_5_method_1_code
def yX3_init : MethodName := ⟨RX3, "<init>", "()V"⟩
abbrev cX3_become : ByteArray := prog_5_method_2_code
def yX3_become : MethodName := ⟨RX3, "become", "(JJ)V"⟩
abbrev cX3_greatestDivisor : ByteArray := prog_5_method_3_code
def yX3_greatestDivisor : MethodName := ⟨RX3, "greatestDivisor", "(JJ)J"⟩
def RX4 : String := "LidForEach$Pairs"
def TX4 : u_T := fun k => match k with
  | 0 => ("LidForEach$Pairs", "options", "[I", true)
  | 1 => ("LidForEach$Pairs", "worths", "[I", true)
  | 2 => ("LidForEach$Pairs", "best", "[I", true)
  | 3 => ("LidForEach$Pairs", "rows", "I", false)
  | _ => ("LidForEach$Pairs", "columns", "I", false)
def tyX4 : Nat → FieldType := fun k => match k with
  | 0 => .array .int
  | 1 => .array .int
  | 2 => .array .int
  | 3 => .int
  | _ => .int
abbrev wsX40 : List Cond := u_ws RX4 TX4 5
theorem nmX4 : ∀ a, a < 5 → ∀ b, b < 5 → a ≠ b → (TX4 a).2.1 ≠ (TX4 b).2.1 := by decide +kernel
theorem tyX4_ok : ∀ k, k < 5 → parseFieldDescriptor (TX4 k).2.2.1 = some (tyX4 k) := by decide +kernel
abbrev cX4_init : ByteArray := prog_6_method_1_code
def yX4_init : MethodName := ⟨RX4, "<init>", "()V"⟩
abbrev cX4_begin : ByteArray := prog_6_method_2_code
def yX4_begin : MethodName := ⟨RX4, "begin", "(I)V"⟩
abbrev cX4_addRow : ByteArray := prog_6_method_3_code
def yX4_addRow : MethodName := ⟨RX4, "addRow", "(II)V"⟩
abbrev cX4_solve : ByteArray := prog_6_method_4_code
def yX4_solve : MethodName := ⟨RX4, "solve", "()V"⟩
abbrev cX4_bestOf : ByteArray := prog_6_method_5_code
def yX4_bestOf : MethodName := ⟨RX4, "bestOf", "(II)I"⟩
abbrev cX4_bestWith : ByteArray := prog_6_method_6_code
def yX4_bestWith : MethodName := ⟨RX4, "bestWith", "(III)I"⟩
abbrev cX4_bestFrom : ByteArray := prog_6_method_7_code
def yX4_bestFrom : MethodName := ⟨RX4, "bestFrom", "(II)I"⟩
abbrev cX4_bestWithout : ByteArray := prog_6_method_8_code
def yX4_bestWithout : MethodName := ⟨RX4, "bestWithout", "(I)I"⟩
abbrev cX4_partner : ByteArray := prog_6_method_9_code
def yX4_partner : MethodName := ⟨RX4, "partner", "(I)I"⟩
abbrev cX4_leastColumn : ByteArray := prog_6_method_10_code
def yX4_leastColumn : MethodName := ⟨RX4, "leastColumn", "(II)I"⟩
def RX5 : String := "LidForEach$Ranking"
def TX5 : u_T := fun k => match k with
  | 0 => ("LidForEach$Ranking", "keys", "[I", true)
  | _ => ("LidForEach$Ranking", "size", "I", false)
def tyX5 : Nat → FieldType := fun k => match k with
  | 0 => .array .int
  | _ => .int
abbrev wsX50 : List Cond := u_ws RX5 TX5 2
theorem nmX5 : ∀ a, a < 2 → ∀ b, b < 2 → a ≠ b → (TX5 a).2.1 ≠ (TX5 b).2.1 := by decide +kernel
theorem tyX5_ok : ∀ k, k < 2 → parseFieldDescriptor (TX5 k).2.2.1 = some (tyX5 k) := by decide +kernel
abbrev cX5_init : ByteArray := prog_7_method_1_code
def yX5_init : MethodName := ⟨RX5, "<init>", "()V"⟩
abbrev cX5_begin : ByteArray := prog_7_method_2_code
def yX5_begin : MethodName := ⟨RX5, "begin", "()V"⟩
abbrev cX5_add : ByteArray := prog_7_method_3_code
def yX5_add : MethodName := ⟨RX5, "add", "(I)V"⟩
abbrev cX5_itemAt : ByteArray := prog_7_method_4_code
def yX5_itemAt : MethodName := ⟨RX5, "itemAt", "(I)I"⟩
abbrev cX5_placeOf : ByteArray := prog_7_method_5_code
def yX5_placeOf : MethodName := ⟨RX5, "placeOf", "(I)I"⟩
def RX6 : String := "LidForEach$Table"
def TX6 : u_T := fun k => match k with
  | 0 => ("LidForEach$Table", "width", "I", true)
  | 1 => ("LidForEach$Table", "room", "I", true)
  | 2 => ("LidForEach$Table", "cells", "[I", true)
  | _ => ("LidForEach$Table", "rows", "I", false)
def tyX6 : Nat → FieldType := fun k => match k with
  | 0 => .int
  | 1 => .int
  | 2 => .array .int
  | _ => .int
abbrev wsX60 : List Cond := u_ws RX6 TX6 4
theorem nmX6 : ∀ a, a < 4 → ∀ b, b < 4 → a ≠ b → (TX6 a).2.1 ≠ (TX6 b).2.1 := by decide +kernel
theorem tyX6_ok : ∀ k, k < 4 → parseFieldDescriptor (TX6 k).2.2.1 = some (tyX6 k) := by decide +kernel
abbrev cX6_init : ByteArray := prog_8_method_1_code
def yX6_init : MethodName := ⟨RX6, "<init>", "(II)V"⟩
abbrev cX6_size : ByteArray := prog_8_method_2_code
def yX6_size : MethodName := ⟨RX6, "size", "()I"⟩
abbrev cX6_contains : ByteArray := prog_8_method_3_code
def yX6_contains : MethodName := ⟨RX6, "contains", "(I)Z"⟩
abbrev cX6_isCell : ByteArray := prog_8_method_4_code
def yX6_isCell : MethodName := ⟨RX6, "isCell", "(II)Z"⟩
abbrev cX6_at : ByteArray := prog_8_method_5_code
def yX6_at : MethodName := ⟨RX6, "at", "(II)I"⟩
abbrev cX6_change : ByteArray := prog_8_method_6_code
def yX6_change : MethodName := ⟨RX6, "change", "(III)V"⟩
abbrev cX6_add : ByteArray := prog_8_method_7_code
def yX6_add : MethodName := ⟨RX6, "add", "(III)I"⟩
abbrev cX6_dropLast : ByteArray := prog_8_method_8_code
def yX6_dropLast : MethodName := ⟨RX6, "dropLast", "()V"⟩
abbrev cX6_dropFirst : ByteArray := prog_8_method_9_code
def yX6_dropFirst : MethodName := ⟨RX6, "dropFirst", "()V"⟩
abbrev cX6_drop : ByteArray := prog_8_method_10_code
def yX6_drop : MethodName := ⟨RX6, "drop", "()I"⟩
abbrev cX6_become : ByteArray := prog_8_method_11_code
def yX6_become : MethodName := ⟨RX6, "become", "(LLidForEach$Table;)V"⟩
abbrev cX6_mixedInto : ByteArray := prog_8_method_12_code
def yX6_mixedInto : MethodName := ⟨RX6, "mixedInto", "(J)J"⟩
def RX7 : String := "LidForEach$Text"
def TX7 : u_T := fun k => match k with
  | 0 => ("LidForEach$Text", "bytes", "[B", true)
  | 1 => ("LidForEach$Text", "numbers", "[I", true)
  | 2 => ("LidForEach$Text", "length", "I", false)
  | 3 => ("LidForEach$Text", "start", "I", false)
  | 4 => ("LidForEach$Text", "end", "I", false)
  | 5 => ("LidForEach$Text", "token", "I", false)
  | 6 => ("LidForEach$Text", "value", "I", false)
  | _ => ("LidForEach$Text", "itemWord", "I", false)
def tyX7 : Nat → FieldType := fun k => match k with
  | 0 => .array .byte
  | 1 => .array .int
  | 2 => .int
  | 3 => .int
  | 4 => .int
  | 5 => .int
  | 6 => .int
  | _ => .int
abbrev wsX70 : List Cond := u_ws RX7 TX7 8
theorem nmX7 : ∀ a, a < 8 → ∀ b, b < 8 → a ≠ b → (TX7 a).2.1 ≠ (TX7 b).2.1 := by decide +kernel
theorem tyX7_ok : ∀ k, k < 8 → parseFieldDescriptor (TX7 k).2.2.1 = some (tyX7 k) := by decide +kernel
abbrev cX7_init : ByteArray := prog_9_method_1_code
def yX7_init : MethodName := ⟨RX7, "<init>", "()V"⟩
abbrev cX7_size : ByteArray := prog_9_method_2_code
def yX7_size : MethodName := ⟨RX7, "size", "()I"⟩
abbrev cX7_append : ByteArray := prog_9_method_3_code
def yX7_append : MethodName := ⟨RX7, "append", "(I)I"⟩
abbrev cX7_drop : ByteArray := prog_9_method_4_code
def yX7_drop : MethodName := ⟨RX7, "drop", "()I"⟩
abbrev cX7_rewind : ByteArray := prog_9_method_5_code
def yX7_rewind : MethodName := ⟨RX7, "rewind", "()V"⟩
abbrev cX7_isAtEnd : ByteArray := prog_9_method_6_code
def yX7_isAtEnd : MethodName := ⟨RX7, "isAtEnd", "()Z"⟩
abbrev cX7_place : ByteArray := prog_9_method_7_code
def yX7_place : MethodName := ⟨RX7, "place", "()I"⟩
abbrev cX7_word : ByteArray := prog_9_method_8_code
def yX7_word : MethodName := ⟨RX7, "word", "()I"⟩
abbrev cX7_numberAt : ByteArray := prog_9_method_9_code
def yX7_numberAt : MethodName := ⟨RX7, "numberAt", "(I)I"⟩
abbrev cX7_takeItem : ByteArray := prog_9_method_10_code
def yX7_takeItem : MethodName := ⟨RX7, "takeItem", "()Z"⟩
abbrev cX7_numbersDue : ByteArray := prog_9_method_11_code
def yX7_numbersDue : MethodName := ⟨RX7, "numbersDue", "(I)I"⟩
abbrev cX7_advance : ByteArray := prog_9_method_12_code
def yX7_advance : MethodName := ⟨RX7, "advance", "()V"⟩
abbrev cX7_advanceOverWord : ByteArray := prog_9_method_13_code
def yX7_advanceOverWord : MethodName := ⟨RX7, "advanceOverWord", "()V"⟩
abbrev cX7_advanceOverNumber : ByteArray := prog_9_method_14_code
def yX7_advanceOverNumber : MethodName := ⟨RX7, "advanceOverNumber", "()V"⟩
abbrev cX7_byteAt : ByteArray := prog_9_method_15_code
def yX7_byteAt : MethodName := ⟨RX7, "byteAt", "(I)I"⟩
abbrev cX7_isLetter : ByteArray := prog_9_method_16_code
def yX7_isLetter : MethodName := ⟨RX7, "isLetter", "(I)Z"⟩
abbrev cX7_isFigure : ByteArray := prog_9_method_17_code
def yX7_isFigure : MethodName := ⟨RX7, "isFigure", "(I)Z"⟩
abbrev cX7_wordNumber : ByteArray := prog_9_method_18_code
def yX7_wordNumber : MethodName := ⟨RX7, "wordNumber", "()I"⟩
abbrev cX7_nameOf : ByteArray := prog_9_method_19_code
def yX7_nameOf : MethodName := ⟨RX7, "nameOf", "(I)Ljava/lang/String;"⟩
abbrev cX7_spells : ByteArray := prog_9_method_20_code
def yX7_spells : MethodName := ⟨RX7, "spells", "(Ljava/lang/String;)Z"⟩
def RX8 : String := "LidForEach"
def TX8 : u_T := fun k => match k with
  | 0 => ("LidForEach", "now", "LLidForEach$Cupboard;", true)
  | 1 => ("LidForEach", "draft", "LLidForEach$Cupboard;", true)
  | 2 => ("LidForEach", "firstImage", "LLidForEach$Cupboard;", true)
  | 3 => ("LidForEach", "secondImage", "LLidForEach$Cupboard;", true)
  | 4 => ("LidForEach", "text", "LLidForEach$Text;", true)
  | 5 => ("LidForEach", "pairs", "LLidForEach$Pairs;", true)
  | 6 => ("LidForEach", "crowds", "LLidForEach$Crowds;", true)
  | 7 => ("LidForEach", "ranking", "LLidForEach$Ranking;", true)
  | 8 => ("LidForEach", "foods", "LLidForEach$Foods;", true)
  | 9 => ("LidForEach", "fraction", "LLidForEach$Fraction;", true)
  | 10 => ("LidForEach", "keptImages", "I", false)
  | 11 => ("LidForEach", "badCalls", "I", false)
  | 12 => ("LidForEach", "noCalls", "I", false)
  | _ => ("LidForEach", "fullCalls", "I", false)
def tyX8 : Nat → FieldType := fun k => match k with
  | 0 => .object "LidForEach$Cupboard"
  | 1 => .object "LidForEach$Cupboard"
  | 2 => .object "LidForEach$Cupboard"
  | 3 => .object "LidForEach$Cupboard"
  | 4 => .object "LidForEach$Text"
  | 5 => .object "LidForEach$Pairs"
  | 6 => .object "LidForEach$Crowds"
  | 7 => .object "LidForEach$Ranking"
  | 8 => .object "LidForEach$Foods"
  | 9 => .object "LidForEach$Fraction"
  | 10 => .int
  | 11 => .int
  | 12 => .int
  | _ => .int
abbrev wsX80 : List Cond := u_ws RX8 TX8 14
theorem nmX8 : ∀ a, a < 14 → ∀ b, b < 14 → a ≠ b → (TX8 a).2.1 ≠ (TX8 b).2.1 := by decide +kernel
theorem tyX8_ok : ∀ k, k < 14 → parseFieldDescriptor (TX8 k).2.2.1 = some (tyX8 k) := by decide +kernel
abbrev cX8_init : ByteArray := prog_1_method_1_code
def yX8_init : MethodName := ⟨RX8, "<init>", "()V"⟩
abbrev cX8_box : ByteArray := prog_1_method_2_code
def yX8_box : MethodName := ⟨RX8, "box", "(III)I"⟩
abbrev cX8_lid : ByteArray := prog_1_method_3_code
def yX8_lid : MethodName := ⟨RX8, "lid", "(III)I"⟩
abbrev cX8_put : ByteArray := prog_1_method_4_code
def yX8_put : MethodName := ⟨RX8, "put", "(II)I"⟩
abbrev cX8_off : ByteArray := prog_1_method_5_code
def yX8_off : MethodName := ⟨RX8, "off", "(I)I"⟩
abbrev cX8_undo : ByteArray := prog_1_method_6_code
def yX8_undo : MethodName := ⟨RX8, "undo", "()I"⟩
abbrev cX8_on : ByteArray := prog_1_method_7_code
def yX8_on : MethodName := ⟨RX8, "on", "(I)I"⟩
abbrev cX8_grasp : ByteArray := prog_1_method_8_code
def yX8_grasp : MethodName := ⟨RX8, "grasp", "(II)I"⟩
abbrev cX8_sort : ByteArray := prog_1_method_9_code
def yX8_sort : MethodName := ⟨RX8, "sort", "(IIII)I"⟩
abbrev cX8_eye : ByteArray := prog_1_method_10_code
def yX8_eye : MethodName := ⟨RX8, "eye", "(II)I"⟩
abbrev cX8_type : ByteArray := prog_1_method_11_code
def yX8_type : MethodName := ⟨RX8, "type", "(I)I"⟩
abbrev cX8_clear : ByteArray := prog_1_method_12_code
def yX8_clear : MethodName := ⟨RX8, "clear", "()I"⟩
abbrev cX8_read : ByteArray := prog_1_method_13_code
def yX8_read : MethodName := ⟨RX8, "read", "()I"⟩
abbrev cX8_fits : ByteArray := prog_1_method_14_code
def yX8_fits : MethodName := ⟨RX8, "fits", "(I)I"⟩
abbrev cX8_most : ByteArray := prog_1_method_15_code
def yX8_most : MethodName := ⟨RX8, "most", "(I)I"⟩
abbrev cX8_lacking : ByteArray := prog_1_method_16_code
def yX8_lacking : MethodName := ⟨RX8, "lacking", "()I"⟩
abbrev cX8_soup : ByteArray := prog_1_method_17_code
def yX8_soup : MethodName := ⟨RX8, "soup", "(II)I"⟩
abbrev cX8_much : ByteArray := prog_1_method_18_code
def yX8_much : MethodName := ⟨RX8, "much", "()I"⟩
abbrev cX8_worth : ByteArray := prog_1_method_19_code
def yX8_worth : MethodName := ⟨RX8, "worth", "(I)I"⟩
abbrev cX8_spare : ByteArray := prog_1_method_20_code
def yX8_spare : MethodName := ⟨RX8, "spare", "()I"⟩
abbrev cX8_piles : ByteArray := prog_1_method_21_code
def yX8_piles : MethodName := ⟨RX8, "piles", "(I)I"⟩
abbrev cX8_shelf : ByteArray := prog_1_method_22_code
def yX8_shelf : MethodName := ⟨RX8, "shelf", "(I)I"⟩
abbrev cX8_buy : ByteArray := prog_1_method_23_code
def yX8_buy : MethodName := ⟨RX8, "buy", "(I)I"⟩
abbrev cX8_tries : ByteArray := prog_1_method_24_code
def yX8_tries : MethodName := ⟨RX8, "tries", "(I)I"⟩
abbrev cX8_nuts : ByteArray := prog_1_method_25_code
def yX8_nuts : MethodName := ⟨RX8, "nuts", "(II)I"⟩
abbrev cX8_lend : ByteArray := prog_1_method_26_code
def yX8_lend : MethodName := ⟨RX8, "lend", "(III)I"⟩
abbrev cX8_has : ByteArray := prog_1_method_27_code
def yX8_has : MethodName := ⟨RX8, "has", "(I)I"⟩
abbrev cX8_wrong : ByteArray := prog_1_method_28_code
def yX8_wrong : MethodName := ⟨RX8, "wrong", "()I"⟩
abbrev cX8_hint : ByteArray := prog_1_method_29_code
def yX8_hint : MethodName := ⟨RX8, "hint", "(III)I"⟩
abbrev cX8_forget : ByteArray := prog_1_method_30_code
def yX8_forget : MethodName := ⟨RX8, "forget", "(I)I"⟩
abbrev cX8_labels : ByteArray := prog_1_method_31_code
def yX8_labels : MethodName := ⟨RX8, "labels", "(II)I"⟩
abbrev cX8_evening : ByteArray := prog_1_method_32_code
def yX8_evening : MethodName := ⟨RX8, "evening", "(II)I"⟩
abbrev cX8_part : ByteArray := prog_1_method_33_code
def yX8_part : MethodName := ⟨RX8, "part", "(I)J"⟩
abbrev cX8_image : ByteArray := prog_1_method_34_code
def yX8_image : MethodName := ⟨RX8, "image", "(I)I"⟩
abbrev cX8_from : ByteArray := prog_1_method_35_code
def yX8_from : MethodName := ⟨RX8, "from", "(I)I"⟩
abbrev cX8_status : ByteArray := prog_1_method_36_code
def yX8_status : MethodName := ⟨RX8, "status", "(I)I"⟩
abbrev cX8_count : ByteArray := prog_1_method_37_code
def yX8_count : MethodName := ⟨RX8, "count", "(I)I"⟩
abbrev cX8_digest : ByteArray := prog_1_method_38_code
def yX8_digest : MethodName := ⟨RX8, "digest", "()J"⟩
abbrev cX8_told : ByteArray := prog_1_method_39_code
def yX8_told : MethodName := ⟨RX8, "told", "(I)I"⟩
abbrev cX8_badToldApart : ByteArray := prog_1_method_40_code
def yX8_badToldApart : MethodName := ⟨RX8, "badToldApart", "()I"⟩
abbrev cX8_within : ByteArray := prog_1_method_41_code
def yX8_within : MethodName := ⟨RX8, "within", "(III)Z"⟩
abbrev cX8_howMany : ByteArray := prog_1_method_42_code
def yX8_howMany : MethodName := ⟨RX8, "howMany", "(I)I"⟩
abbrev cX8_imageAt : ByteArray := prog_1_method_43_code
def yX8_imageAt : MethodName := ⟨RX8, "imageAt", "(I)LLidForEach$Cupboard;"⟩
abbrev cX8_tellItem : ByteArray := prog_1_method_44_code
def yX8_tellItem : MethodName := ⟨RX8, "tellItem", "(LLidForEach$Cupboard;)I"⟩
abbrev cX8_pairLids : ByteArray := prog_1_method_45_code
def yX8_pairLids : MethodName := ⟨RX8, "pairLids", "(Z)V"⟩
abbrev cX8_shelfCost : ByteArray := prog_1_method_46_code
def yX8_shelfCost : MethodName := ⟨RX8, "shelfCost", "(I)I"⟩
abbrev cX8_leastPurchase : ByteArray := prog_1_method_47_code
def yX8_leastPurchase : MethodName := ⟨RX8, "leastPurchase", "()I"⟩
abbrev cX8_sortShift : ByteArray := prog_1_method_48_code
def yX8_sortShift : MethodName := ⟨RX8, "sortShift", "(I)I"⟩
abbrev cX8_rankTries : ByteArray := prog_1_method_49_code
def yX8_rankTries : MethodName := ⟨RX8, "rankTries", "()V"⟩
abbrev cX8_meanOfTries : ByteArray := prog_1_method_50_code
def yX8_meanOfTries : MethodName := ⟨RX8, "meanOfTries", "()V"⟩
abbrev cX8_meanOfNuts : ByteArray := prog_1_method_51_code
def yX8_meanOfNuts : MethodName := ⟨RX8, "meanOfNuts", "(II)V"⟩
abbrev cX8_factorial : ByteArray := prog_1_method_52_code
def yX8_factorial : MethodName := ⟨RX8, "factorial", "(I)I"⟩
def RX9 : String := "LidForEachModel"
def TX9 : u_T := fun k => match k with
  | 0 => ("LidForEachModel", "above", "J", false)
  | 1 => ("LidForEachModel", "below", "J", false)
  | 2 => ("LidForEachModel", "now", "[I", true)
  | 3 => ("LidForEachModel", "base", "I", false)
  | 4 => ("LidForEachModel", "isKept", "[Z", true)
  | 5 => ("LidForEachModel", "refused", "[I", true)
  | 6 => ("LidForEachModel", "text", "[B", true)
  | 7 => ("LidForEachModel", "typed", "I", false)
  | 8 => ("LidForEachModel", "at", "I", false)
  | 9 => ("LidForEachModel", "start", "I", false)
  | 10 => ("LidForEachModel", "sort", "I", false)
  | 11 => ("LidForEachModel", "value", "I", false)
  | 12 => ("LidForEachModel", "fault", "I", false)
  | 13 => ("LidForEachModel", "refusedItem", "I", false)
  | 14 => ("LidForEachModel", "given", "[I", true)
  | 15 => ("LidForEachModel", "goes", "[I", true)
  | 16 => ("LidForEachModel", "pairs", "[I", true)
  | 17 => ("LidForEachModel", "mate", "[I", true)
  | 18 => ("LidForEachModel", "isLidded", "[Z", true)
  | 19 => ("LidForEachModel", "isBought", "[Z", true)
  | 20 => ("LidForEachModel", "bought", "[I", true)
  | 21 => ("LidForEachModel", "order", "[I", true)
  | 22 => ("LidForEachModel", "bestOrder", "[I", true)
  | _ => ("LidForEachModel", "often", "[I", true)
def tyX9 : Nat → FieldType := fun k => match k with
  | 0 => .long
  | 1 => .long
  | 2 => .array .int
  | 3 => .int
  | 4 => .array .boolean
  | 5 => .array .int
  | 6 => .array .byte
  | 7 => .int
  | 8 => .int
  | 9 => .int
  | 10 => .int
  | 11 => .int
  | 12 => .int
  | 13 => .int
  | 14 => .array .int
  | 15 => .array .int
  | 16 => .array .int
  | 17 => .array .int
  | 18 => .array .boolean
  | 19 => .array .boolean
  | 20 => .array .int
  | 21 => .array .int
  | 22 => .array .int
  | _ => .array .int
abbrev wsX90 : List Cond := u_ws RX9 TX9 24
theorem nmX9 : ∀ a, a < 24 → ∀ b, b < 24 → a ≠ b → (TX9 a).2.1 ≠ (TX9 b).2.1 := by decide +kernel
theorem tyX9_ok : ∀ k, k < 24 → parseFieldDescriptor (TX9 k).2.2.1 = some (tyX9 k) := by decide +kernel
abbrev cX9_init : ByteArray := prog_11_method_1_code
def yX9_init : MethodName := ⟨RX9, "<init>", "()V"⟩
abbrev cX9_in : ByteArray := prog_11_method_3_code
def yX9_in : MethodName := ⟨RX9, "in", "(III)Z"⟩
abbrev cX9_get : ByteArray := prog_11_method_4_code
def yX9_get : MethodName := ⟨RX9, "get", "(I)I"⟩
abbrev cX9_put1 : ByteArray := prog_11_method_5_code
def yX9_put1 : MethodName := ⟨RX9, "put1", "(II)V"⟩
abbrev cX9_ofBox : ByteArray := prog_11_method_6_code
def yX9_ofBox : MethodName := ⟨RX9, "ofBox", "(II)I"⟩
abbrev cX9_ofLid : ByteArray := prog_11_method_7_code
def yX9_ofLid : MethodName := ⟨RX9, "ofLid", "(II)I"⟩
abbrev cX9_copy : ByteArray := prog_11_method_8_code
def yX9_copy : MethodName := ⟨RX9, "copy", "(II)V"⟩
abbrev cX9_isBox : ByteArray := prog_11_method_9_code
def yX9_isBox : MethodName := ⟨RX9, "isBox", "(I)Z"⟩
abbrev cX9_isLid : ByteArray := prog_11_method_10_code
def yX9_isLid : MethodName := ⟨RX9, "isLid", "(I)Z"⟩
abbrev cX9_told : ByteArray := prog_11_method_11_code
def yX9_told : MethodName := ⟨RX9, "told", "(I)I"⟩
abbrev cX9_bad10 : ByteArray := prog_11_method_12_code
def yX9_bad10 : MethodName := ⟨RX9, "bad10", "()I"⟩
abbrev cX9_addBox : ByteArray := prog_11_method_13_code
def yX9_addBox : MethodName := ⟨RX9, "addBox", "(III)I"⟩
abbrev cX9_addLid : ByteArray := prog_11_method_14_code
def yX9_addLid : MethodName := ⟨RX9, "addLid", "(III)I"⟩
abbrev cX9_addSort : ByteArray := prog_11_method_15_code
def yX9_addSort : MethodName := ⟨RX9, "addSort", "(IIII)I"⟩
abbrev cX9_isPlain : ByteArray := prog_11_method_16_code
def yX9_isPlain : MethodName := ⟨RX9, "isPlain", "(III)Z"⟩
abbrev cX9_fitsAs : ByteArray := prog_11_method_17_code
def yX9_fitsAs : MethodName := ⟨RX9, "fitsAs", "(IIII)Z"⟩
abbrev cX9_doesFit : ByteArray := prog_11_method_18_code
def yX9_doesFit : MethodName := ⟨RX9, "doesFit", "(II)Z"⟩
abbrev cX9_boxOf : ByteArray := prog_11_method_19_code
def yX9_boxOf : MethodName := ⟨RX9, "boxOf", "(I)I"⟩
abbrev cX9_know : ByteArray := prog_11_method_20_code
def yX9_know : MethodName := ⟨RX9, "know", "()V"⟩
abbrev cX9_putOn : ByteArray := prog_11_method_21_code
def yX9_putOn : MethodName := ⟨RX9, "putOn", "(II)I"⟩
abbrev cX9_setGrasp : ByteArray := prog_11_method_22_code
def yX9_setGrasp : MethodName := ⟨RX9, "setGrasp", "(II)I"⟩
abbrev cX9_box : ByteArray := prog_11_method_23_code
def yX9_box : MethodName := ⟨RX9, "box", "(III)I"⟩
abbrev cX9_lid : ByteArray := prog_11_method_24_code
def yX9_lid : MethodName := ⟨RX9, "lid", "(III)I"⟩
abbrev cX9_put : ByteArray := prog_11_method_25_code
def yX9_put : MethodName := ⟨RX9, "put", "(II)I"⟩
abbrev cX9_off : ByteArray := prog_11_method_26_code
def yX9_off : MethodName := ⟨RX9, "off", "(I)I"⟩
abbrev cX9_undo : ByteArray := prog_11_method_27_code
def yX9_undo : MethodName := ⟨RX9, "undo", "()I"⟩
abbrev cX9_on : ByteArray := prog_11_method_28_code
def yX9_on : MethodName := ⟨RX9, "on", "(I)I"⟩
abbrev cX9_grasp : ByteArray := prog_11_method_29_code
def yX9_grasp : MethodName := ⟨RX9, "grasp", "(II)I"⟩
abbrev cX9_sort : ByteArray := prog_11_method_30_code
def yX9_sort : MethodName := ⟨RX9, "sort", "(IIII)I"⟩
abbrev cX9_eye : ByteArray := prog_11_method_31_code
def yX9_eye : MethodName := ⟨RX9, "eye", "(II)I"⟩
abbrev cX9_type : ByteArray := prog_11_method_32_code
def yX9_type : MethodName := ⟨RX9, "type", "(I)I"⟩
abbrev cX9_clear : ByteArray := prog_11_method_33_code
def yX9_clear : MethodName := ⟨RX9, "clear", "()I"⟩
abbrev cX9_here : ByteArray := prog_11_method_34_code
def yX9_here : MethodName := ⟨RX9, "here", "()I"⟩
abbrev cX9_meaning : ByteArray := prog_11_method_35_code
def yX9_meaning : MethodName := ⟨RX9, "meaning", "(I)I"⟩
abbrev cX9_next : ByteArray := prog_11_method_36_code
def yX9_next : MethodName := ⟨RX9, "next", "()V"⟩
abbrev cX9_due : ByteArray := prog_11_method_37_code
def yX9_due : MethodName := ⟨RX9, "due", "(Z)V"⟩
abbrev cX9_doItem : ByteArray := prog_11_method_38_code
def yX9_doItem : MethodName := ⟨RX9, "doItem", "(I)I"⟩
abbrev cX9_read : ByteArray := prog_11_method_39_code
def yX9_read : MethodName := ⟨RX9, "read", "()I"⟩
abbrev cX9_manyOf : ByteArray := prog_11_method_40_code
def yX9_manyOf : MethodName := ⟨RX9, "manyOf", "(I)I"⟩
abbrev cX9_mostOf : ByteArray := prog_11_method_41_code
def yX9_mostOf : MethodName := ⟨RX9, "mostOf", "(II)I"⟩
abbrev cX9_findFits : ByteArray := prog_11_method_42_code
def yX9_findFits : MethodName := ⟨RX9, "findFits", "()V"⟩
abbrev cX9_boxes : ByteArray := prog_11_method_43_code
def yX9_boxes : MethodName := ⟨RX9, "boxes", "()I"⟩
abbrev cX9_lids : ByteArray := prog_11_method_44_code
def yX9_lids : MethodName := ⟨RX9, "lids", "()I"⟩
abbrev cX9_findFirst : ByteArray := prog_11_method_45_code
def yX9_findFirst : MethodName := ⟨RX9, "findFirst", "(II)I"⟩
abbrev cX9_fits : ByteArray := prog_11_method_46_code
def yX9_fits : MethodName := ⟨RX9, "fits", "(I)I"⟩
abbrev cX9_most : ByteArray := prog_11_method_47_code
def yX9_most : MethodName := ⟨RX9, "most", "(I)I"⟩
abbrev cX9_lacking : ByteArray := prog_11_method_48_code
def yX9_lacking : MethodName := ⟨RX9, "lacking", "()I"⟩
abbrev cX9_sumOf : ByteArray := prog_11_method_49_code
def yX9_sumOf : MethodName := ⟨RX9, "sumOf", "(II)I"⟩
abbrev cX9_isCovered : ByteArray := prog_11_method_50_code
def yX9_isCovered : MethodName := ⟨RX9, "isCovered", "(II)Z"⟩
abbrev cX9_soup : ByteArray := prog_11_method_51_code
def yX9_soup : MethodName := ⟨RX9, "soup", "(II)I"⟩
abbrev cX9_muchBy : ByteArray := prog_11_method_52_code
def yX9_muchBy : MethodName := ⟨RX9, "muchBy", "(I)I"⟩
abbrev cX9_much : ByteArray := prog_11_method_53_code
def yX9_much : MethodName := ⟨RX9, "much", "()I"⟩
abbrev cX9_worth : ByteArray := prog_11_method_54_code
def yX9_worth : MethodName := ⟨RX9, "worth", "(I)I"⟩
abbrev cX9_spare : ByteArray := prog_11_method_55_code
def yX9_spare : MethodName := ⟨RX9, "spare", "()I"⟩
abbrev cX9_piles : ByteArray := prog_11_method_56_code
def yX9_piles : MethodName := ⟨RX9, "piles", "(I)I"⟩
abbrev cX9_shelf : ByteArray := prog_11_method_57_code
def yX9_shelf : MethodName := ⟨RX9, "shelf", "(I)I"⟩
abbrev cX9_buyOne : ByteArray := prog_11_method_58_code
def yX9_buyOne : MethodName := ⟨RX9, "buyOne", "(I)V"⟩
abbrev cX9_isEnough : ByteArray := prog_11_method_59_code
def yX9_isEnough : MethodName := ⟨RX9, "isEnough", "(I)Z"⟩
abbrev cX9_priceOf : ByteArray := prog_11_method_60_code
def yX9_priceOf : MethodName := ⟨RX9, "priceOf", "(I)I"⟩
abbrev cX9_manyIn : ByteArray := prog_11_method_61_code
def yX9_manyIn : MethodName := ⟨RX9, "manyIn", "(I)I"⟩
abbrev cX9_buy : ByteArray := prog_11_method_62_code
def yX9_buy : MethodName := ⟨RX9, "buy", "(I)I"⟩
abbrev cX9_firstOrder : ByteArray := prog_11_method_63_code
def yX9_firstOrder : MethodName := ⟨RX9, "firstOrder", "(I)V"⟩
abbrev cX9_nextOrder : ByteArray := prog_11_method_64_code
def yX9_nextOrder : MethodName := ⟨RX9, "nextOrder", "(I)Z"⟩
abbrev cX9_fraction : ByteArray := prog_11_method_65_code
def yX9_fraction : MethodName := ⟨RX9, "fraction", "(JJ)V"⟩
abbrev cX9_meanBy : ByteArray := prog_11_method_66_code
def yX9_meanBy : MethodName := ⟨RX9, "meanBy", "(I)J"⟩
abbrev cX9_tries : ByteArray := prog_11_method_67_code
def yX9_tries : MethodName := ⟨RX9, "tries", "(I)I"⟩
abbrev cX9_nuts : ByteArray := prog_11_method_68_code
def yX9_nuts : MethodName := ⟨RX9, "nuts", "(II)I"⟩
abbrev cX9_lend : ByteArray := prog_11_method_69_code
def yX9_lend : MethodName := ⟨RX9, "lend", "(III)I"⟩
abbrev cX9_whoHas : ByteArray := prog_11_method_70_code
def yX9_whoHas : MethodName := ⟨RX9, "whoHas", "(II)I"⟩
abbrev cX9_has : ByteArray := prog_11_method_71_code
def yX9_has : MethodName := ⟨RX9, "has", "(I)I"⟩
abbrev cX9_wrong : ByteArray := prog_11_method_72_code
def yX9_wrong : MethodName := ⟨RX9, "wrong", "()I"⟩
abbrev cX9_hint : ByteArray := prog_11_method_73_code
def yX9_hint : MethodName := ⟨RX9, "hint", "(III)I"⟩
abbrev cX9_forget : ByteArray := prog_11_method_74_code
def yX9_forget : MethodName := ⟨RX9, "forget", "(I)I"⟩
abbrev cX9_isSo : ByteArray := prog_11_method_75_code
def yX9_isSo : MethodName := ⟨RX9, "isSo", "()Z"⟩
abbrev cX9_findWays : ByteArray := prog_11_method_76_code
def yX9_findWays : MethodName := ⟨RX9, "findWays", "()I"⟩
abbrev cX9_labels : ByteArray := prog_11_method_77_code
def yX9_labels : MethodName := ⟨RX9, "labels", "(II)I"⟩
abbrev cX9_evening : ByteArray := prog_11_method_78_code
def yX9_evening : MethodName := ⟨RX9, "evening", "(II)I"⟩
abbrev cX9_part : ByteArray := prog_11_method_79_code
def yX9_part : MethodName := ⟨RX9, "part", "(I)J"⟩
abbrev cX9_image : ByteArray := prog_11_method_80_code
def yX9_image : MethodName := ⟨RX9, "image", "(I)I"⟩
abbrev cX9_from : ByteArray := prog_11_method_81_code
def yX9_from : MethodName := ⟨RX9, "from", "(I)I"⟩
abbrev cX9_status : ByteArray := prog_11_method_82_code
def yX9_status : MethodName := ⟨RX9, "status", "(I)I"⟩
abbrev cX9_counted : ByteArray := prog_11_method_83_code
def yX9_counted : MethodName := ⟨RX9, "counted", "(I)I"⟩
abbrev cX9_count : ByteArray := prog_11_method_84_code
def yX9_count : MethodName := ⟨RX9, "count", "(I)I"⟩
abbrev cX9_digested : ByteArray := prog_11_method_85_code
def yX9_digested : MethodName := ⟨RX9, "digested", "(JII)J"⟩
abbrev cX9_digest : ByteArray := prog_11_method_86_code
def yX9_digest : MethodName := ⟨RX9, "digest", "()J"⟩
def RJx145de : String := "java/io/Serializable"
def TJx145de : u_T := fun k => match k with
  | _ => ("", "", "", false)
def tyJx145de : Nat → FieldType := fun k => match k with
  | _ => .int
def RJx9f9b0 : String := "java/lang/CharSequence"
def TJx9f9b0 : u_T := fun k => match k with
  | _ => ("", "", "", false)
def tyJx9f9b0 : Nat → FieldType := fun k => match k with
  | _ => .int
def RJxb160c : String := "java/lang/Comparable"
def TJxb160c : u_T := fun k => match k with
  | _ => ("", "", "", false)
def tyJxb160c : Nat → FieldType := fun k => match k with
  | _ => .int
def RJ6 : String := "java/lang/Integer"
def TJ6 : u_T := fun k => match k with
  | _ => ("", "", "", false)
def tyJ6 : Nat → FieldType := fun k => match k with
  | _ => .int
abbrev cJ6_lowestOneBit_0f7a4 : ByteArray := prog_12_method_46_code
def yJ6_lowestOneBit_0f7a4 : MethodName := ⟨RJ6, "lowestOneBit", "(I)I"⟩
abbrev cJ6_bitCount_0f7a4 : ByteArray := prog_12_method_49_code
def yJ6_bitCount_0f7a4 : MethodName := ⟨RJ6, "bitCount", "(I)I"⟩
def RJ9 : String := "java/lang/Math"
def TJ9 : u_T := fun k => match k with
  | _ => ("", "", "", false)
def tyJ9 : Nat → FieldType := fun k => match k with
  | _ => .int
abbrev cJ9_max_7cf53 : ByteArray := prog_13_method_65_code
def yJ9_max_7cf53 : MethodName := ⟨RJ9, "max", "(II)I"⟩
abbrev cJ9_min_7cf53 : ByteArray := prog_13_method_69_code
def yJ9_min_7cf53 : MethodName := ⟨RJ9, "min", "(II)I"⟩
def RJ0 : String := "java/lang/String"
def TJ0 : u_T := fun k => match k with
  | _ => ("", "", "", false)
def tyJ0 : Nat → FieldType := fun k => match k with
  | _ => .int
abbrev cJ0_length_8abf5 : ByteArray := prog_14_method_54_code
def yJ0_length_8abf5 : MethodName := ⟨RJ0, "length", "()I"⟩
abbrev cJ0_charAt_5068e : ByteArray := prog_14_method_56_code
def yJ0_charAt_5068e : MethodName := ⟨RJ0, "charAt", "(I)C"⟩
abbrev cJ0_coder_7d493 : ByteArray := prog_14_method_152_code
def yJ0_coder_7d493 : MethodName := ⟨RJ0, "coder", "()B"⟩
abbrev cJ0_isLatin1_aae02 : ByteArray := prog_14_method_154_code
def yJ0_isLatin1_aae02 : MethodName := ⟨RJ0, "isLatin1", "()Z"⟩
abbrev cJ0_checkIndex_df160 : ByteArray := prog_14_method_155_code
def yJ0_checkIndex_df160 : MethodName := ⟨RJ0, "checkIndex", "(II)V"⟩
def RJ1 : String := "java/lang/StringLatin1"
def TJ1 : u_T := fun k => match k with
  | _ => ("", "", "", false)
def tyJ1 : Nat → FieldType := fun k => match k with
  | _ => .int
abbrev cJ1_charAt_3b067 : ByteArray := prog_15_method_2_code
def yJ1_charAt_3b067 : MethodName := ⟨RJ1, "charAt", "([BI)C"⟩
def RJ2 : String := "java/lang/StringUTF16"
def TJ2 : u_T := fun k => match k with
  | _ => ("", "", "", false)
def tyJ2 : Nat → FieldType := fun k => match k with
  | _ => .int
abbrev cJ2_getChar_3b067 : ByteArray := prog_16_method_5_code
def yJ2_getChar_3b067 : MethodName := ⟨RJ2, "getChar", "([BI)C"⟩
abbrev cJ2_length_9d52b : ByteArray := prog_16_method_6_code
def yJ2_length_9d52b : MethodName := ⟨RJ2, "length", "([B)I"⟩
abbrev cJ2_charAt_3b067 : ByteArray := prog_16_method_83_code
def yJ2_charAt_3b067 : MethodName := ⟨RJ2, "charAt", "([BI)C"⟩
abbrev cJ2_checkIndex_2214a : ByteArray := prog_16_method_91_code
def yJ2_checkIndex_2214a : MethodName := ⟨RJ2, "checkIndex", "(I[B)V"⟩
def RJ10 : String := "java/lang/System"
def TJ10 : u_T := fun k => match k with
  | _ => ("", "", "", false)
def tyJ10 : Nat → FieldType := fun k => match k with
  | _ => .int
def RJxfd54e : String := "java/lang/constant/Constable"
def TJxfd54e : u_T := fun k => match k with
  | _ => ("", "", "", false)
def tyJxfd54e : Nat → FieldType := fun k => match k with
  | _ => .int
def RJx3cf43 : String := "java/lang/constant/ConstantDesc"
def TJx3cf43 : u_T := fun k => match k with
  | _ => ("", "", "", false)
def tyJx3cf43 : Nat → FieldType := fun k => match k with
  | _ => .int
def RJ7 : String := "java/util/Arrays"
def TJ7 : u_T := fun k => match k with
  | _ => ("", "", "", false)
def tyJ7 : Nat → FieldType := fun k => match k with
  | _ => .int
abbrev cJ7_fill_53178 : ByteArray := prog_18_method_103_code
def yJ7_fill_53178 : MethodName := ⟨RJ7, "fill", "([II)V"⟩
def RJ3 : String := "jdk/internal/util/Preconditions"
def TJ3 : u_T := fun k => match k with
  | _ => ("", "", "", false)
def tyJ3 : Nat → FieldType := fun k => match k with
  | _ => .int
abbrev cJ3_checkIndex_8e157 : ByteArray := prog_19_method_11_code
def yJ3_checkIndex_8e157 : MethodName := ⟨RJ3, "checkIndex", "(IILjava/util/function/BiFunction;)I"⟩
def RL : String := "LidForEachLaw"
abbrev cL_law : ByteArray := code
abbrev vwCl : List vw_C := [(RX0, TX0, 3), (RX1, TX1, 6), (RX2, TX2, 9), (RX3, TX3, 2), (RX4, TX4, 5), (RX5, TX5, 2), (RX6, TX6, 4), (RX7, TX7, 8), (RX8, TX8, 14), (RX9, TX9, 24)]
end
section
/-! ===== THE PURE MACHINE: a world is a count of cells and what each holds, references are the cells' numbers; the judgement Zw of a frame and Zm of a method speak of pure worlds alone ===== -/
/-- a cell: a row (0 int, 1 byte, 2 boolean; its length; what it holds), or an object (the number of its class, its fields) -/
abbrev ZE : Type := (Nat × Nat × (Nat → Int32)) ⊕ (Nat × List Value)
abbrev ZW : Type := Nat × (Nat → ZE)
/-- a method: its name, its code, its locals, what it returns -/
abbrev ZM : Type := MethodName × ByteArray × Nat × Option FieldType
/-- where the world lies: its first address, the addresses of constants, the classes' numbers, the row classes -/
abbrev ZG : Type := Nat × (Nat → Nat) × va_G × (Nat → ClassId)
def za (g : ZG) (i : Nat) : Nat := if i < 1000000 then g.1 + i else g.2.1 (i - 1000000)
def zv (g : ZG) (v : Value) : Value := match v with
  | .ref i => .ref (za g i)
  | .int x => .int x
  | .long x => .long x
  | .float x => .float x
  | .double x => .double x
  | .null => .null
  | .retAddr x => .retAddr x
def ze (g : ZG) (e : ZE) : va_E := match e with
  | .inl x => .inl (g.2.2.2 x.1, x.2.1, .inl x.2.2)
  | .inr o => .inr (o.1, o.2.map (zv g))
def zl (g : ZG) (w : ZW) : va_W := (List.range w.1).map (fun i => (g.1 + i, ze g (w.2 i)))
abbrev zA (g : ZG) : Nat → Prop := fun q => g.1 ≤ q
def zput (w : ZW) (i : Nat) (e : ZE) : ZW := (w.1, va_up w.2 i e)
def zadd (w : ZW) (e : ZE) : ZW := (w.1 + 1, va_up w.2 w.1 e)
def zat (w : ZW) (i : Nat) (e : ZE) : Prop := i < w.1 ∧ w.2 i = e
theorem za_lt {g : ZG} {i : Nat} (h : i < 1000000) : za g i = g.1 + i := if_pos h
theorem zv_cat (g : ZG) (v : Value) : (zv g v).category = v.category := by cases v <;> rfl
theorem zl_at {g : ZG} {w : ZW} {i : Nat} (h : i < w.1) : (zl g w)[i]? = some (g.1 + i, ze g (w.2 i)) := by
  simp [zl, h]
theorem zl_get {g : ZG} {w : ZW} {i : Nat} {q : Nat × va_E} (h : (zl g w)[i]? = some q) : i < w.1 ∧ q = (g.1 + i, ze g (w.2 i)) := by
  have hi : i < w.1 := by
    have := (List.getElem?_eq_some_iff.mp h).1
    simpa [zl] using this
  rw [zl_at hi] at h
  exact ⟨hi, (Option.some.inj h).symm⟩
theorem zl_D (g : ZG) (w : ZW) : va_D (zA g) (zl g w) := by
  refine ⟨fun i j p q hi hj e => ?_, fun k q hk => ?_⟩
  · obtain ⟨-, rfl⟩ := zl_get hi
    obtain ⟨-, rfl⟩ := zl_get hj
    dsimp only at e
    omega
  · obtain ⟨-, rfl⟩ := zl_get hk
    show g.1 ≤ g.1 + k
    omega
theorem zl_set {g : ZG} {w : ZW} {i : Nat} (e : ZE) (h : i < w.1) : (zl g w).set i (g.1 + i, ze g e) = zl g (zput w i e) := by
  apply List.ext_getElem?
  intro j
  by_cases hj : j < w.1
  · rw [zl_at (w := zput w i e) (show j < (zput w i e).1 from hj)]
    by_cases hij : i = j
    · subst hij
      rw [List.getElem?_set_self (by simpa [zl] using hj)]
      simp [zput, va_up]
    · rw [List.getElem?_set_ne hij, zl_at hj]
      simp [zput, va_up, Ne.symm hij]
  · rw [List.getElem?_eq_none (by simp [zl]; omega), List.getElem?_eq_none (by simp [zl, zput]; omega)]
theorem zl_push (g : ZG) (w : ZW) (e : ZE) : zl g w ++ [(g.1 + w.1, ze g e)] = zl g (zadd w e) := by
  simp only [zl, zadd, List.range_succ, List.map_append, List.map_cons, List.map_nil]
  congr 1
  · apply List.map_congr_left
    intro i hi
    have : i < w.1 := List.mem_range.mp hi
    simp [va_up, Nat.ne_of_lt this]
  · simp [va_up]
theorem zat.put {w : ZW} {i j : Nat} {e e' : ZE} (h : zat w j e) (hij : j ≠ i) : zat (zput w i e') j e := ⟨h.1, by show va_up w.2 i e' j = e; simp [va_up, hij]; exact h.2⟩
theorem zat.self {w : ZW} {i : Nat} {e e' : ZE} (h : zat w i e) : zat (zput w i e') i e' := ⟨h.1, by show va_up w.2 i e' i = e'; simp [va_up]⟩
/-- the heap holds the world -/
def zR (g : ZG) (w : ZW) (H : Heap) : Prop := H.size = g.1 + w.1 ∧ w.1 ≤ 1000000 ∧ va_P g.2.2.1 vwCl (zl g w) H
abbrev ztys (g : ZG) : List (ClassId × FieldType) := [(g.2.2.2 0, .int), (g.2.2.2 1, .byte), (g.2.2.2 2, .boolean)]
/-- the texts: by entry of LidForEach$Text -/
abbrev ztx : List (Nat × String) := [(77, "box"), (79, "lid"), (81, "on"), (83, "grasp"), (85, "sort")]
abbrev zlen : List Nat := [3, 3, 2, 5, 4]
abbrev zbyt : List (List Int32) := [[98, 111, 120], [108, 105, 100], [111, 110], [103, 114, 97, 115, 112], [115, 111, 114, 116]]
def zK (g : ZG) (U : State) : Prop := va_K g.2.2.1 vwCl (ztys g) U ∧ ∀ (k : Nat) (t : Nat × String), ztx[k]? = some t → vk_R "LidForEach$Text" t.1 t.2 (g.2.1 k) U
def zS (g : ZG) (U : State) (H : Heap) : Prop := vk_S 5 zlen zbyt g.2.1 (fun k => g.2.1 (100 + k)) (zA g) U H ∧ va_Z "java/lang/String" "COMPACT_STRINGS" "Z" (.int 1) (zA g) U H ∧ (va_Z "jdk/internal/util/Preconditions" "SIOOBE_FORMATTER" "Ljava/util/function/BiFunction;" .null (zA g) U H ∨ va_Z "jdk/internal/util/Preconditions" "SIOOBE_FORMATTER" "Ljava/util/function/BiFunction;" (.ref (g.2.1 201)) (zA g) U H)
def zEnv (g : ZG) (U : State) : Prop := zK g U ∧ zS g U U.heap ∧ g.1 ≤ U.heap.size
theorem zK.warm {g : ZG} {s U : State} (hW : s.WarmedH U.vm) (h : zK g s) : zK g U := ⟨va_K.moved hW.alike h.1, fun k t hk => vk_R.warm hW (h.2 k t hk)⟩
theorem zS.go {g : ZG} {s U : State} {H H1 : Heap} (hvm : s.vm.Alike U.vm) (hq : ∀ a : Nat, a < H.size → ¬ zA g a → H1[a]? = H[a]?) (h : zS g s H) : zS g U H1 := by
  obtain ⟨h1, h2, h3⟩ := h
  refine ⟨vk_S.moved hvm (h1.kept hq), va_Z.moved hvm (h2.kept hq), ?_⟩
  rcases h3 with h | h
  · exact Or.inl (va_Z.moved hvm (h.kept hq))
  · exact Or.inr (va_Z.moved hvm (h.kept hq))
theorem zEnv.go {g : ZG} {s U : State} {H : Heap} {locs : List Loc} (hU : U.heap = H) (hW : s.WarmedH U.vm) (hS : va_S (zA g) s.heap H locs) (h : zEnv g s) : zEnv g U := by
  subst hU
  exact ⟨h.1.warm hW, h.2.1.go hW.alike hS.2.1, Nat.le_trans h.2.2 hS.1⟩
def zPc (g : ZG) (as : List Value) (w : ZW) : Array Value → State → Prop := fun a U => a = (as.map (zv g)).toArray ∧ zR g w U.heap ∧ zEnv g U
def zQc (g : ZG) (Q : Option Value → ZW → Prop) : Array Value → State → Outcome → State → Prop := fun _ st o t => ∃ (v : Option Value) (w : ZW), o = .returned (v.map (zv g)) ∧ Q v w ∧ zR g w t.heap ∧ va_F (zA g) st t
theorem zPc_blind (g : ZG) (as : List Value) (w : ZW) : FrameBlind (zPc g as w) := by
  intro a U fr mk h
  obtain ⟨h1, h2, h3, h4, h5⟩ := h
  exact ⟨h1, h2, ⟨va_K.moved (u := U) (U := U.calling fr mk a) (Vm.Alike.refl U.vm) h3.1, fun k t hk => vk_R.same (u := U) rfl (h3.2 k t hk)⟩, zS.go (s := U) (U := U.calling fr mk a) (Vm.Alike.refl U.vm) (fun _ _ _ => rfl) h4, h5⟩
/-- the words that every method is given -/
def zT : List Cond := lw_tbl.filter goodWord
theorem zT_of {w : Cond} (i : Nat) (h : lw_tbl[i]? = some w) (hg : goodWord w = true) : w ∈ zT := List.mem_filter.mpr ⟨List.mem_of_getElem? h, hg⟩
theorem zT_good {w : Cond} (h : w ∈ zT) : GoodIn zT (w :: zT) := by
  intro q hq
  rcases List.mem_cons.mp hq with rfl | hq
  · exact ⟨h, good_of_word (List.mem_filter.mp h).2⟩
  · exact ⟨hq, good_of_word (List.mem_filter.mp hq).2⟩
def zRet (ins : Instr) (v : Option Value) (rt : Option FieldType) : Prop :=
  (ins = .ireturn ∧ ∃ (x : Int32) (ty : FieldType), v = some (.int x) ∧ rt = some ty ∧ narrow ty (.int x) = .int x) ∨ (ins = .lreturn ∧ ∃ x : Int64, v = some (.long x) ∧ rt = some .long) ∨ (ins = .areturn ∧ ∃ (a : Nat) (n : String), v = some (.ref a) ∧ rt = some (.object n)) ∨ (ins = .return_ ∧ v = none ∧ rt = none)
def zCx (d : Nat) (mt : ZM) (mc ms : Nat) (Q : Option Value → ZW → Prop) (g : ZG) (p : Program) (l : Launch) (e : Env) (R : Room) (s : State) (m : MethodId) (args : Array Value) (below : List Frame) (meth : Method) (c : Code) (Qm : State → Prop) : Prop :=
  p.tables.exec = Jvm.exec ∧ c.code = mt.2.1 ∧ c.maxLocals = mt.2.2.1 ∧ s.vm.findClass mt.1.cls = some m.cls ∧ (∀ w ∈ zT, w.before args s = true) ∧ meth.name = mt.1.name ∧ (d ≤ R.frames ∧ 64 * d ≤ R.locals ∧ mc ≤ R.cells ∧ ms ≤ R.slots) ∧ zEnv g s ∧
  ∀ (v : Option Value) (w : ZW) (H : Heap) (locs : List Loc) (pc : Nat) (ls : Array Slot) (ins : Instr), Q v w → zRet ins v mt.2.2.2 → decode mt.2.1 pc = .ok (ins, 1) → zR g w H → va_S (zA g) s.heap H locs → W p l e R s m args below meth c H locs mc ms Qm (F0 m pc ls ((v.map (zv g)).toList))
/-- the locals, by place; none: not known -/
def zL (g : ZG) (ls : List (Option Value)) (la : Array Slot) : Prop := la.size = ls.length ∧ lv_wf la ∧ ∀ (i : Nat) (v : Value), ls[i]? = some (some v) → la[i]? = some (.val (zv g v))
abbrev ZN : Type := Nat × Nat × Nat × Nat
/-- the frame of mt at pc comes to a return with Q; cn: cells and slots made so far, and in all -/
def Zw (d : Nat) (mt : ZM) (cn : ZN) (pc : Nat) (ls : List (Option Value)) (st : List Value) (w : ZW) (Q : Option Value → ZW → Prop) : Prop :=
  ∀ (g : ZG) (p : Program) (l : Launch) (e : Env) (R : Room) (s : State) (m : MethodId) (args : Array Value) (below : List Frame) (meth : Method) (c : Code) (Qm : State → Prop), zCx d mt cn.2.2.1 cn.2.2.2 Q g p l e R s m args below meth c Qm →
  ∀ (H : Heap) (locs : List Loc) (la : Array Slot), zR g w H → va_S (zA g) s.heap H locs → zL g ls la → W p l e R s m args below meth c H locs cn.1 cn.2.1 Qm (F0 m pc la (st.map (zv g)))
abbrev zroom (d mc ms : Nat) : Room := { frames := d, cells := mc, slots := ms, locals := 64 * d }
/-- the method mt, called with as in the world w, returns with Q; mc, ms: the cells and slots it makes -/
def Zm (d : Nat) (mt : ZM) (mc ms : Nat) (as : List Value) (w : ZW) (Q : Option Value → ZW → Prop) : Prop :=
  ∀ (l : Launch) (g : ZG), Met l mt.1 (Cond.code mt.1 mt.2.1 mt.2.2.1 mt.2.2.2 :: zT) (zroom d mc ms) (zPc g as w) (zQc g Q) mc ms (zA g)
end
