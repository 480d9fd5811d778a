section
def lw_okq (q : MethodName × Nat) : Prop := (q.1.cls ≠ "java/lang/invoke/MethodHandle" ∧ q.1.cls ≠ "java/lang/invoke/VarHandle") ∧ Cond.instantiable q.1.cls q.2 ∈ tables_1 ∧ Cond.privateMethod q.1 ∈ tables_1 ∧ Cond.instanceMethod q.1 ∈ tables_1
theorem lw_p0 : lw_okq (⟨"LidForEach$Table", "isCell", "(II)Z"⟩, 4) := ⟨⟨by decide +kernel, by decide +kernel⟩, List.mem_of_getElem? (i := 34) (by decide +kernel), List.mem_of_getElem? (i := 283) (by decide +kernel), List.mem_of_getElem? (i := 284) (by decide +kernel)⟩
theorem lw_p1 : lw_okq (⟨"LidForEach", "told", "(I)I"⟩, 14) := ⟨⟨by decide +kernel, by decide +kernel⟩, List.mem_of_getElem? (i := 20) (by decide +kernel), List.mem_of_getElem? (i := 292) (by decide +kernel), List.mem_of_getElem? (i := 293) (by decide +kernel)⟩
theorem lw_p2 : lw_okq (⟨"LidForEach$Cupboard", "rowFits", "(LLidForEach$Table;II)Z"⟩, 6) := ⟨⟨by decide +kernel, by decide +kernel⟩, List.mem_of_getElem? (i := 28) (by decide +kernel), List.mem_of_getElem? (i := 319) (by decide +kernel), List.mem_of_getElem? (i := 320) (by decide +kernel)⟩
theorem lw_p3 : lw_okq (⟨"LidForEach$Cupboard", "boxUnder", "(I)I"⟩, 6) := ⟨⟨by decide +kernel, by decide +kernel⟩, List.mem_of_getElem? (i := 28) (by decide +kernel), List.mem_of_getElem? (i := 327) (by decide +kernel), List.mem_of_getElem? (i := 328) (by decide +kernel)⟩
theorem lw_p4 : lw_okq (⟨"LidForEach$Cupboard", "remember", "(III)V"⟩, 6) := ⟨⟨by decide +kernel, by decide +kernel⟩, List.mem_of_getElem? (i := 28) (by decide +kernel), List.mem_of_getElem? (i := 335) (by decide +kernel), List.mem_of_getElem? (i := 336) (by decide +kernel)⟩
theorem lw_p5 : lw_okq (⟨"LidForEach", "badToldApart", "()I"⟩, 14) := ⟨⟨by decide +kernel, by decide +kernel⟩, List.mem_of_getElem? (i := 20) (by decide +kernel), List.mem_of_getElem? (i := 372) (by decide +kernel), List.mem_of_getElem? (i := 373) (by decide +kernel)⟩
theorem lw_p6 : lw_okq (⟨"LidForEach$Text", "byteAt", "(I)I"⟩, 8) := ⟨⟨by decide +kernel, by decide +kernel⟩, List.mem_of_getElem? (i := 85) (by decide +kernel), List.mem_of_getElem? (i := 433) (by decide +kernel), List.mem_of_getElem? (i := 434) (by decide +kernel)⟩
theorem lw_p7 : lw_okq (⟨"LidForEach$Text", "advanceOverWord", "()V"⟩, 8) := ⟨⟨by decide +kernel, by decide +kernel⟩, List.mem_of_getElem? (i := 85) (by decide +kernel), List.mem_of_getElem? (i := 440) (by decide +kernel), List.mem_of_getElem? (i := 441) (by decide +kernel)⟩
theorem lw_p8 : lw_okq (⟨"LidForEach$Text", "wordNumber", "()I"⟩, 8) := ⟨⟨by decide +kernel, by decide +kernel⟩, List.mem_of_getElem? (i := 85) (by decide +kernel), List.mem_of_getElem? (i := 444) (by decide +kernel), List.mem_of_getElem? (i := 445) (by decide +kernel)⟩
theorem lw_p9 : lw_okq (⟨"LidForEach$Text", "spells", "(Ljava/lang/String;)Z"⟩, 8) := ⟨⟨by decide +kernel, by decide +kernel⟩, List.mem_of_getElem? (i := 85) (by decide +kernel), List.mem_of_getElem? (i := 456) (by decide +kernel), List.mem_of_getElem? (i := 457) (by decide +kernel)⟩
theorem lw_p10 : lw_okq (⟨"LidForEach$Text", "advanceOverNumber", "()V"⟩, 8) := ⟨⟨by decide +kernel, by decide +kernel⟩, List.mem_of_getElem? (i := 85) (by decide +kernel), List.mem_of_getElem? (i := 511) (by decide +kernel), List.mem_of_getElem? (i := 512) (by decide +kernel)⟩
theorem lw_p11 : lw_okq (⟨"LidForEach", "tellItem", "(LLidForEach$Cupboard;)I"⟩, 14) := ⟨⟨by decide +kernel, by decide +kernel⟩, List.mem_of_getElem? (i := 20) (by decide +kernel), List.mem_of_getElem? (i := 531) (by decide +kernel), List.mem_of_getElem? (i := 532) (by decide +kernel)⟩
theorem lw_p12 : lw_okq (⟨"LidForEach", "pairLids", "(Z)V"⟩, 14) := ⟨⟨by decide +kernel, by decide +kernel⟩, List.mem_of_getElem? (i := 20) (by decide +kernel), List.mem_of_getElem? (i := 563) (by decide +kernel), List.mem_of_getElem? (i := 564) (by decide +kernel)⟩
theorem lw_p13 : lw_okq (⟨"LidForEach$Pairs", "bestOf", "(II)I"⟩, 5) := ⟨⟨by decide +kernel, by decide +kernel⟩, List.mem_of_getElem? (i := 117) (by decide +kernel), List.mem_of_getElem? (i := 584) (by decide +kernel), List.mem_of_getElem? (i := 585) (by decide +kernel)⟩
theorem lw_p14 : lw_okq (⟨"LidForEach$Pairs", "bestFrom", "(II)I"⟩, 5) := ⟨⟨by decide +kernel, by decide +kernel⟩, List.mem_of_getElem? (i := 117) (by decide +kernel), List.mem_of_getElem? (i := 588) (by decide +kernel), List.mem_of_getElem? (i := 589) (by decide +kernel)⟩
theorem lw_p15 : lw_okq (⟨"LidForEach$Pairs", "bestWith", "(III)I"⟩, 5) := ⟨⟨by decide +kernel, by decide +kernel⟩, List.mem_of_getElem? (i := 117) (by decide +kernel), List.mem_of_getElem? (i := 593) (by decide +kernel), List.mem_of_getElem? (i := 594) (by decide +kernel)⟩
def lw_privs_1 : List (MethodName × Nat) := [(⟨"LidForEach$Table", "isCell", "(II)Z"⟩, 4), (⟨"LidForEach", "told", "(I)I"⟩, 14), (⟨"LidForEach$Cupboard", "rowFits", "(LLidForEach$Table;II)Z"⟩, 6), (⟨"LidForEach$Cupboard", "boxUnder", "(I)I"⟩, 6), (⟨"LidForEach$Cupboard", "remember", "(III)V"⟩, 6), (⟨"LidForEach", "badToldApart", "()I"⟩, 14), (⟨"LidForEach$Text", "byteAt", "(I)I"⟩, 8), (⟨"LidForEach$Text", "advanceOverWord", "()V"⟩, 8), (⟨"LidForEach$Text", "wordNumber", "()I"⟩, 8), (⟨"LidForEach$Text", "spells", "(Ljava/lang/String;)Z"⟩, 8), (⟨"LidForEach$Text", "advanceOverNumber", "()V"⟩, 8), (⟨"LidForEach", "tellItem", "(LLidForEach$Cupboard;)I"⟩, 14), (⟨"LidForEach", "pairLids", "(Z)V"⟩, 14), (⟨"LidForEach$Pairs", "bestOf", "(II)I"⟩, 5), (⟨"LidForEach$Pairs", "bestFrom", "(II)I"⟩, 5), (⟨"LidForEach$Pairs", "bestWith", "(III)I"⟩, 5)]
theorem lw_r1 : ∀ q ∈ lw_privs_1, lw_okq q := List.forall_mem_cons.mpr ⟨lw_p0, List.forall_mem_cons.mpr ⟨lw_p1, List.forall_mem_cons.mpr ⟨lw_p2, List.forall_mem_cons.mpr ⟨lw_p3, List.forall_mem_cons.mpr ⟨lw_p4, List.forall_mem_cons.mpr ⟨lw_p5, List.forall_mem_cons.mpr ⟨lw_p6, List.forall_mem_cons.mpr ⟨lw_p7, List.forall_mem_cons.mpr ⟨lw_p8, List.forall_mem_cons.mpr ⟨lw_p9, List.forall_mem_cons.mpr ⟨lw_p10, List.forall_mem_cons.mpr ⟨lw_p11, List.forall_mem_cons.mpr ⟨lw_p12, List.forall_mem_cons.mpr ⟨lw_p13, List.forall_mem_cons.mpr ⟨lw_p14, List.forall_mem_cons.mpr ⟨lw_p15, fun _ h => absurd h List.not_mem_nil⟩⟩⟩⟩⟩⟩⟩⟩⟩⟩⟩⟩⟩⟩⟩⟩
theorem lw_p16 : lw_okq (⟨"LidForEach$Pairs", "leastColumn", "(II)I"⟩, 5) := ⟨⟨by decide +kernel, by decide +kernel⟩, List.mem_of_getElem? (i := 117) (by decide +kernel), List.mem_of_getElem? (i := 605) (by decide +kernel), List.mem_of_getElem? (i := 606) (by decide +kernel)⟩
theorem lw_p17 : lw_okq (⟨"LidForEach$Crowds", "lackOf", "(I)I"⟩, 3) := ⟨⟨by decide +kernel, by decide +kernel⟩, List.mem_of_getElem? (i := 139) (by decide +kernel), List.mem_of_getElem? (i := 620) (by decide +kernel), List.mem_of_getElem? (i := 621) (by decide +kernel)⟩
theorem lw_p18 : lw_okq (⟨"LidForEach$Crowds", "areLiddedWithoutOne", "(I)Z"⟩, 3) := ⟨⟨by decide +kernel, by decide +kernel⟩, List.mem_of_getElem? (i := 139) (by decide +kernel), List.mem_of_getElem? (i := 631) (by decide +kernel), List.mem_of_getElem? (i := 632) (by decide +kernel)⟩
theorem lw_p19 : lw_okq (⟨"LidForEach$Cupboard", "goesInto", "(II)Z"⟩, 6) := ⟨⟨by decide +kernel, by decide +kernel⟩, List.mem_of_getElem? (i := 28) (by decide +kernel), List.mem_of_getElem? (i := 674) (by decide +kernel), List.mem_of_getElem? (i := 675) (by decide +kernel)⟩
theorem lw_p20 : lw_okq (⟨"LidForEach", "shelfCost", "(I)I"⟩, 14) := ⟨⟨by decide +kernel, by decide +kernel⟩, List.mem_of_getElem? (i := 20) (by decide +kernel), List.mem_of_getElem? (i := 690) (by decide +kernel), List.mem_of_getElem? (i := 691) (by decide +kernel)⟩
theorem lw_p21 : lw_okq (⟨"LidForEach$Ranking", "placeOf", "(I)I"⟩, 2) := ⟨⟨by decide +kernel, by decide +kernel⟩, List.mem_of_getElem? (i := 156) (by decide +kernel), List.mem_of_getElem? (i := 698) (by decide +kernel), List.mem_of_getElem? (i := 699) (by decide +kernel)⟩
theorem lw_p22 : lw_okq (⟨"LidForEach", "leastPurchase", "()I"⟩, 14) := ⟨⟨by decide +kernel, by decide +kernel⟩, List.mem_of_getElem? (i := 20) (by decide +kernel), List.mem_of_getElem? (i := 706) (by decide +kernel), List.mem_of_getElem? (i := 707) (by decide +kernel)⟩
theorem lw_p23 : lw_okq (⟨"LidForEach", "rankTries", "()V"⟩, 14) := ⟨⟨by decide +kernel, by decide +kernel⟩, List.mem_of_getElem? (i := 20) (by decide +kernel), List.mem_of_getElem? (i := 725) (by decide +kernel), List.mem_of_getElem? (i := 726) (by decide +kernel)⟩
theorem lw_p24 : lw_okq (⟨"LidForEach", "meanOfTries", "()V"⟩, 14) := ⟨⟨by decide +kernel, by decide +kernel⟩, List.mem_of_getElem? (i := 20) (by decide +kernel), List.mem_of_getElem? (i := 733) (by decide +kernel), List.mem_of_getElem? (i := 734) (by decide +kernel)⟩
theorem lw_p25 : lw_okq (⟨"LidForEach", "meanOfNuts", "(II)V"⟩, 14) := ⟨⟨by decide +kernel, by decide +kernel⟩, List.mem_of_getElem? (i := 20) (by decide +kernel), List.mem_of_getElem? (i := 752) (by decide +kernel), List.mem_of_getElem? (i := 753) (by decide +kernel)⟩
theorem lw_p26 : lw_okq (⟨"LidForEach$Foods", "heed", "(III)V"⟩, 9) := ⟨⟨by decide +kernel, by decide +kernel⟩, List.mem_of_getElem? (i := 169) (by decide +kernel), List.mem_of_getElem? (i := 805) (by decide +kernel), List.mem_of_getElem? (i := 806) (by decide +kernel)⟩
theorem lw_p27 : lw_okq (⟨"LidForEach$Foods", "mayBeIn", "(III)Z"⟩, 9) := ⟨⟨by decide +kernel, by decide +kernel⟩, List.mem_of_getElem? (i := 169) (by decide +kernel), List.mem_of_getElem? (i := 816) (by decide +kernel), List.mem_of_getElem? (i := 817) (by decide +kernel)⟩
theorem lw_p28 : lw_okq (⟨"LidForEach$Foods", "agreesBySize", "(III)Z"⟩, 9) := ⟨⟨by decide +kernel, by decide +kernel⟩, List.mem_of_getElem? (i := 169) (by decide +kernel), List.mem_of_getElem? (i := 820) (by decide +kernel), List.mem_of_getElem? (i := 821) (by decide +kernel)⟩
theorem lw_p29 : lw_okq (⟨"LidForEach$Foods", "sizeAt", "(I)I"⟩, 9) := ⟨⟨by decide +kernel, by decide +kernel⟩, List.mem_of_getElem? (i := 169) (by decide +kernel), List.mem_of_getElem? (i := 824) (by decide +kernel), List.mem_of_getElem? (i := 825) (by decide +kernel)⟩
theorem lw_p30 : lw_okq (⟨"LidForEach$Foods", "waysWith", "(II)I"⟩, 9) := ⟨⟨by decide +kernel, by decide +kernel⟩, List.mem_of_getElem? (i := 169) (by decide +kernel), List.mem_of_getElem? (i := 836) (by decide +kernel), List.mem_of_getElem? (i := 837) (by decide +kernel)⟩
theorem lw_p31 : lw_okq (⟨"LidForEach$Foods", "worstBehind", "(I)I"⟩, 9) := ⟨⟨by decide +kernel, by decide +kernel⟩, List.mem_of_getElem? (i := 169) (by decide +kernel), List.mem_of_getElem? (i := 845) (by decide +kernel), List.mem_of_getElem? (i := 846) (by decide +kernel)⟩
def lw_privs_2 : List (MethodName × Nat) := [(⟨"LidForEach$Pairs", "leastColumn", "(II)I"⟩, 5), (⟨"LidForEach$Crowds", "lackOf", "(I)I"⟩, 3), (⟨"LidForEach$Crowds", "areLiddedWithoutOne", "(I)Z"⟩, 3), (⟨"LidForEach$Cupboard", "goesInto", "(II)Z"⟩, 6), (⟨"LidForEach", "shelfCost", "(I)I"⟩, 14), (⟨"LidForEach$Ranking", "placeOf", "(I)I"⟩, 2), (⟨"LidForEach", "leastPurchase", "()I"⟩, 14), (⟨"LidForEach", "rankTries", "()V"⟩, 14), (⟨"LidForEach", "meanOfTries", "()V"⟩, 14), (⟨"LidForEach", "meanOfNuts", "(II)V"⟩, 14), (⟨"LidForEach$Foods", "heed", "(III)V"⟩, 9), (⟨"LidForEach$Foods", "mayBeIn", "(III)Z"⟩, 9), (⟨"LidForEach$Foods", "agreesBySize", "(III)Z"⟩, 9), (⟨"LidForEach$Foods", "sizeAt", "(I)I"⟩, 9), (⟨"LidForEach$Foods", "waysWith", "(II)I"⟩, 9), (⟨"LidForEach$Foods", "worstBehind", "(I)I"⟩, 9)]
theorem lw_r2 : ∀ q ∈ lw_privs_2, lw_okq q := List.forall_mem_cons.mpr ⟨lw_p16, List.forall_mem_cons.mpr ⟨lw_p17, List.forall_mem_cons.mpr ⟨lw_p18, List.forall_mem_cons.mpr ⟨lw_p19, List.forall_mem_cons.mpr ⟨lw_p20, List.forall_mem_cons.mpr ⟨lw_p21, List.forall_mem_cons.mpr ⟨lw_p22, List.forall_mem_cons.mpr ⟨lw_p23, List.forall_mem_cons.mpr ⟨lw_p24, List.forall_mem_cons.mpr ⟨lw_p25, List.forall_mem_cons.mpr ⟨lw_p26, List.forall_mem_cons.mpr ⟨lw_p27, List.forall_mem_cons.mpr ⟨lw_p28, List.forall_mem_cons.mpr ⟨lw_p29, List.forall_mem_cons.mpr ⟨lw_p30, List.forall_mem_cons.mpr ⟨lw_p31, fun _ h => absurd h List.not_mem_nil⟩⟩⟩⟩⟩⟩⟩⟩⟩⟩⟩⟩⟩⟩⟩⟩
theorem lw_p32 : lw_okq (⟨"LidForEach", "imageAt", "(I)LLidForEach$Cupboard;"⟩, 14) := ⟨⟨by decide +kernel, by decide +kernel⟩, List.mem_of_getElem? (i := 20) (by decide +kernel), List.mem_of_getElem? (i := 875) (by decide +kernel), List.mem_of_getElem? (i := 876) (by decide +kernel)⟩
theorem lw_p33 : lw_okq (⟨"LidForEach", "howMany", "(I)I"⟩, 14) := ⟨⟨by decide +kernel, by decide +kernel⟩, List.mem_of_getElem? (i := 20) (by decide +kernel), List.mem_of_getElem? (i := 891) (by decide +kernel), List.mem_of_getElem? (i := 892) (by decide +kernel)⟩
theorem lw_p34 : lw_okq (⟨"LidForEachModel", "addBox", "(III)I"⟩, 24) := ⟨⟨by decide +kernel, by decide +kernel⟩, List.mem_of_getElem? (i := 915) (by decide +kernel), List.mem_of_getElem? (i := 998) (by decide +kernel), List.mem_of_getElem? (i := 999) (by decide +kernel)⟩
theorem lw_p35 : lw_okq (⟨"LidForEachModel", "get", "(I)I"⟩, 24) := ⟨⟨by decide +kernel, by decide +kernel⟩, List.mem_of_getElem? (i := 915) (by decide +kernel), List.mem_of_getElem? (i := 1005) (by decide +kernel), List.mem_of_getElem? (i := 1006) (by decide +kernel)⟩
theorem lw_p36 : lw_okq (⟨"LidForEachModel", "put1", "(II)V"⟩, 24) := ⟨⟨by decide +kernel, by decide +kernel⟩, List.mem_of_getElem? (i := 915) (by decide +kernel), List.mem_of_getElem? (i := 1009) (by decide +kernel), List.mem_of_getElem? (i := 1010) (by decide +kernel)⟩
theorem lw_p37 : lw_okq (⟨"LidForEachModel", "told", "(I)I"⟩, 24) := ⟨⟨by decide +kernel, by decide +kernel⟩, List.mem_of_getElem? (i := 915) (by decide +kernel), List.mem_of_getElem? (i := 1013) (by decide +kernel), List.mem_of_getElem? (i := 1014) (by decide +kernel)⟩
theorem lw_p38 : lw_okq (⟨"LidForEachModel", "addLid", "(III)I"⟩, 24) := ⟨⟨by decide +kernel, by decide +kernel⟩, List.mem_of_getElem? (i := 915) (by decide +kernel), List.mem_of_getElem? (i := 1021) (by decide +kernel), List.mem_of_getElem? (i := 1022) (by decide +kernel)⟩
theorem lw_p39 : lw_okq (⟨"LidForEachModel", "putOn", "(II)I"⟩, 24) := ⟨⟨by decide +kernel, by decide +kernel⟩, List.mem_of_getElem? (i := 915) (by decide +kernel), List.mem_of_getElem? (i := 1029) (by decide +kernel), List.mem_of_getElem? (i := 1030) (by decide +kernel)⟩
theorem lw_p40 : lw_okq (⟨"LidForEachModel", "isLid", "(I)Z"⟩, 24) := ⟨⟨by decide +kernel, by decide +kernel⟩, List.mem_of_getElem? (i := 915) (by decide +kernel), List.mem_of_getElem? (i := 1033) (by decide +kernel), List.mem_of_getElem? (i := 1034) (by decide +kernel)⟩
theorem lw_p41 : lw_okq (⟨"LidForEachModel", "isBox", "(I)Z"⟩, 24) := ⟨⟨by decide +kernel, by decide +kernel⟩, List.mem_of_getElem? (i := 915) (by decide +kernel), List.mem_of_getElem? (i := 1037) (by decide +kernel), List.mem_of_getElem? (i := 1038) (by decide +kernel)⟩
theorem lw_p42 : lw_okq (⟨"LidForEachModel", "doesFit", "(II)Z"⟩, 24) := ⟨⟨by decide +kernel, by decide +kernel⟩, List.mem_of_getElem? (i := 915) (by decide +kernel), List.mem_of_getElem? (i := 1041) (by decide +kernel), List.mem_of_getElem? (i := 1042) (by decide +kernel)⟩
theorem lw_p43 : lw_okq (⟨"LidForEachModel", "ofLid", "(II)I"⟩, 24) := ⟨⟨by decide +kernel, by decide +kernel⟩, List.mem_of_getElem? (i := 915) (by decide +kernel), List.mem_of_getElem? (i := 1045) (by decide +kernel), List.mem_of_getElem? (i := 1046) (by decide +kernel)⟩
theorem lw_p44 : lw_okq (⟨"LidForEachModel", "fitsAs", "(IIII)Z"⟩, 24) := ⟨⟨by decide +kernel, by decide +kernel⟩, List.mem_of_getElem? (i := 915) (by decide +kernel), List.mem_of_getElem? (i := 1049) (by decide +kernel), List.mem_of_getElem? (i := 1050) (by decide +kernel)⟩
theorem lw_p45 : lw_okq (⟨"LidForEachModel", "ofBox", "(II)I"⟩, 24) := ⟨⟨by decide +kernel, by decide +kernel⟩, List.mem_of_getElem? (i := 915) (by decide +kernel), List.mem_of_getElem? (i := 1053) (by decide +kernel), List.mem_of_getElem? (i := 1054) (by decide +kernel)⟩
theorem lw_p46 : lw_okq (⟨"LidForEachModel", "isPlain", "(III)Z"⟩, 24) := ⟨⟨by decide +kernel, by decide +kernel⟩, List.mem_of_getElem? (i := 915) (by decide +kernel), List.mem_of_getElem? (i := 1057) (by decide +kernel), List.mem_of_getElem? (i := 1058) (by decide +kernel)⟩
theorem lw_p47 : lw_okq (⟨"LidForEachModel", "boxOf", "(I)I"⟩, 24) := ⟨⟨by decide +kernel, by decide +kernel⟩, List.mem_of_getElem? (i := 915) (by decide +kernel), List.mem_of_getElem? (i := 1061) (by decide +kernel), List.mem_of_getElem? (i := 1062) (by decide +kernel)⟩
def lw_privs_3 : List (MethodName × Nat) := [(⟨"LidForEach", "imageAt", "(I)LLidForEach$Cupboard;"⟩, 14), (⟨"LidForEach", "howMany", "(I)I"⟩, 14), (⟨"LidForEachModel", "addBox", "(III)I"⟩, 24), (⟨"LidForEachModel", "get", "(I)I"⟩, 24), (⟨"LidForEachModel", "put1", "(II)V"⟩, 24), (⟨"LidForEachModel", "told", "(I)I"⟩, 24), (⟨"LidForEachModel", "addLid", "(III)I"⟩, 24), (⟨"LidForEachModel", "putOn", "(II)I"⟩, 24), (⟨"LidForEachModel", "isLid", "(I)Z"⟩, 24), (⟨"LidForEachModel", "isBox", "(I)Z"⟩, 24), (⟨"LidForEachModel", "doesFit", "(II)Z"⟩, 24), (⟨"LidForEachModel", "ofLid", "(II)I"⟩, 24), (⟨"LidForEachModel", "fitsAs", "(IIII)Z"⟩, 24), (⟨"LidForEachModel", "ofBox", "(II)I"⟩, 24), (⟨"LidForEachModel", "isPlain", "(III)Z"⟩, 24), (⟨"LidForEachModel", "boxOf", "(I)I"⟩, 24)]
theorem lw_r3 : ∀ q ∈ lw_privs_3, lw_okq q := List.forall_mem_cons.mpr ⟨lw_p32, List.forall_mem_cons.mpr ⟨lw_p33, List.forall_mem_cons.mpr ⟨lw_p34, List.forall_mem_cons.mpr ⟨lw_p35, List.forall_mem_cons.mpr ⟨lw_p36, List.forall_mem_cons.mpr ⟨lw_p37, List.forall_mem_cons.mpr ⟨lw_p38, List.forall_mem_cons.mpr ⟨lw_p39, List.forall_mem_cons.mpr ⟨lw_p40, List.forall_mem_cons.mpr ⟨lw_p41, List.forall_mem_cons.mpr ⟨lw_p42, List.forall_mem_cons.mpr ⟨lw_p43, List.forall_mem_cons.mpr ⟨lw_p44, List.forall_mem_cons.mpr ⟨lw_p45, List.forall_mem_cons.mpr ⟨lw_p46, List.forall_mem_cons.mpr ⟨lw_p47, fun _ h => absurd h List.not_mem_nil⟩⟩⟩⟩⟩⟩⟩⟩⟩⟩⟩⟩⟩⟩⟩⟩
theorem lw_p48 : lw_okq (⟨"LidForEachModel", "know", "()V"⟩, 24) := ⟨⟨by decide +kernel, by decide +kernel⟩, List.mem_of_getElem? (i := 915) (by decide +kernel), List.mem_of_getElem? (i := 1065) (by decide +kernel), List.mem_of_getElem? (i := 1066) (by decide +kernel)⟩
theorem lw_p49 : lw_okq (⟨"LidForEachModel", "bad10", "()I"⟩, 24) := ⟨⟨by decide +kernel, by decide +kernel⟩, List.mem_of_getElem? (i := 915) (by decide +kernel), List.mem_of_getElem? (i := 1081) (by decide +kernel), List.mem_of_getElem? (i := 1082) (by decide +kernel)⟩
theorem lw_p50 : lw_okq (⟨"LidForEachModel", "setGrasp", "(II)I"⟩, 24) := ⟨⟨by decide +kernel, by decide +kernel⟩, List.mem_of_getElem? (i := 915) (by decide +kernel), List.mem_of_getElem? (i := 1089) (by decide +kernel), List.mem_of_getElem? (i := 1090) (by decide +kernel)⟩
theorem lw_p51 : lw_okq (⟨"LidForEachModel", "addSort", "(IIII)I"⟩, 24) := ⟨⟨by decide +kernel, by decide +kernel⟩, List.mem_of_getElem? (i := 915) (by decide +kernel), List.mem_of_getElem? (i := 1097) (by decide +kernel), List.mem_of_getElem? (i := 1098) (by decide +kernel)⟩
theorem lw_p52 : lw_okq (⟨"LidForEachModel", "next", "()V"⟩, 24) := ⟨⟨by decide +kernel, by decide +kernel⟩, List.mem_of_getElem? (i := 915) (by decide +kernel), List.mem_of_getElem? (i := 1117) (by decide +kernel), List.mem_of_getElem? (i := 1118) (by decide +kernel)⟩
theorem lw_p53 : lw_okq (⟨"LidForEachModel", "here", "()I"⟩, 24) := ⟨⟨by decide +kernel, by decide +kernel⟩, List.mem_of_getElem? (i := 915) (by decide +kernel), List.mem_of_getElem? (i := 1121) (by decide +kernel), List.mem_of_getElem? (i := 1122) (by decide +kernel)⟩
theorem lw_p54 : lw_okq (⟨"LidForEachModel", "due", "(Z)V"⟩, 24) := ⟨⟨by decide +kernel, by decide +kernel⟩, List.mem_of_getElem? (i := 915) (by decide +kernel), List.mem_of_getElem? (i := 1128) (by decide +kernel), List.mem_of_getElem? (i := 1129) (by decide +kernel)⟩
theorem lw_p55 : lw_okq (⟨"LidForEachModel", "doItem", "(I)I"⟩, 24) := ⟨⟨by decide +kernel, by decide +kernel⟩, List.mem_of_getElem? (i := 915) (by decide +kernel), List.mem_of_getElem? (i := 1132) (by decide +kernel), List.mem_of_getElem? (i := 1133) (by decide +kernel)⟩
theorem lw_p56 : lw_okq (⟨"LidForEachModel", "copy", "(II)V"⟩, 24) := ⟨⟨by decide +kernel, by decide +kernel⟩, List.mem_of_getElem? (i := 915) (by decide +kernel), List.mem_of_getElem? (i := 1136) (by decide +kernel), List.mem_of_getElem? (i := 1137) (by decide +kernel)⟩
theorem lw_p57 : lw_okq (⟨"LidForEachModel", "findFits", "()V"⟩, 24) := ⟨⟨by decide +kernel, by decide +kernel⟩, List.mem_of_getElem? (i := 915) (by decide +kernel), List.mem_of_getElem? (i := 1144) (by decide +kernel), List.mem_of_getElem? (i := 1145) (by decide +kernel)⟩
theorem lw_p58 : lw_okq (⟨"LidForEachModel", "boxes", "()I"⟩, 24) := ⟨⟨by decide +kernel, by decide +kernel⟩, List.mem_of_getElem? (i := 915) (by decide +kernel), List.mem_of_getElem? (i := 1152) (by decide +kernel), List.mem_of_getElem? (i := 1153) (by decide +kernel)⟩
theorem lw_p59 : lw_okq (⟨"LidForEachModel", "lids", "()I"⟩, 24) := ⟨⟨by decide +kernel, by decide +kernel⟩, List.mem_of_getElem? (i := 915) (by decide +kernel), List.mem_of_getElem? (i := 1156) (by decide +kernel), List.mem_of_getElem? (i := 1157) (by decide +kernel)⟩
theorem lw_p60 : lw_okq (⟨"LidForEachModel", "findFirst", "(II)I"⟩, 24) := ⟨⟨by decide +kernel, by decide +kernel⟩, List.mem_of_getElem? (i := 915) (by decide +kernel), List.mem_of_getElem? (i := 1160) (by decide +kernel), List.mem_of_getElem? (i := 1161) (by decide +kernel)⟩
theorem lw_p61 : lw_okq (⟨"LidForEachModel", "mostOf", "(II)I"⟩, 24) := ⟨⟨by decide +kernel, by decide +kernel⟩, List.mem_of_getElem? (i := 915) (by decide +kernel), List.mem_of_getElem? (i := 1164) (by decide +kernel), List.mem_of_getElem? (i := 1165) (by decide +kernel)⟩
theorem lw_p62 : lw_okq (⟨"LidForEachModel", "sumOf", "(II)I"⟩, 24) := ⟨⟨by decide +kernel, by decide +kernel⟩, List.mem_of_getElem? (i := 915) (by decide +kernel), List.mem_of_getElem? (i := 1179) (by decide +kernel), List.mem_of_getElem? (i := 1180) (by decide +kernel)⟩
theorem lw_p63 : lw_okq (⟨"LidForEachModel", "isCovered", "(II)Z"⟩, 24) := ⟨⟨by decide +kernel, by decide +kernel⟩, List.mem_of_getElem? (i := 915) (by decide +kernel), List.mem_of_getElem? (i := 1183) (by decide +kernel), List.mem_of_getElem? (i := 1184) (by decide +kernel)⟩
def lw_privs_4 : List (MethodName × Nat) := [(⟨"LidForEachModel", "know", "()V"⟩, 24), (⟨"LidForEachModel", "bad10", "()I"⟩, 24), (⟨"LidForEachModel", "setGrasp", "(II)I"⟩, 24), (⟨"LidForEachModel", "addSort", "(IIII)I"⟩, 24), (⟨"LidForEachModel", "next", "()V"⟩, 24), (⟨"LidForEachModel", "here", "()I"⟩, 24), (⟨"LidForEachModel", "due", "(Z)V"⟩, 24), (⟨"LidForEachModel", "doItem", "(I)I"⟩, 24), (⟨"LidForEachModel", "copy", "(II)V"⟩, 24), (⟨"LidForEachModel", "findFits", "()V"⟩, 24), (⟨"LidForEachModel", "boxes", "()I"⟩, 24), (⟨"LidForEachModel", "lids", "()I"⟩, 24), (⟨"LidForEachModel", "findFirst", "(II)I"⟩, 24), (⟨"LidForEachModel", "mostOf", "(II)I"⟩, 24), (⟨"LidForEachModel", "sumOf", "(II)I"⟩, 24), (⟨"LidForEachModel", "isCovered", "(II)Z"⟩, 24)]
theorem lw_r4 : ∀ q ∈ lw_privs_4, lw_okq q := List.forall_mem_cons.mpr ⟨lw_p48, List.forall_mem_cons.mpr ⟨lw_p49, List.forall_mem_cons.mpr ⟨lw_p50, List.forall_mem_cons.mpr ⟨lw_p51, List.forall_mem_cons.mpr ⟨lw_p52, List.forall_mem_cons.mpr ⟨lw_p53, List.forall_mem_cons.mpr ⟨lw_p54, List.forall_mem_cons.mpr ⟨lw_p55, List.forall_mem_cons.mpr ⟨lw_p56, List.forall_mem_cons.mpr ⟨lw_p57, List.forall_mem_cons.mpr ⟨lw_p58, List.forall_mem_cons.mpr ⟨lw_p59, List.forall_mem_cons.mpr ⟨lw_p60, List.forall_mem_cons.mpr ⟨lw_p61, List.forall_mem_cons.mpr ⟨lw_p62, List.forall_mem_cons.mpr ⟨lw_p63, fun _ h => absurd h List.not_mem_nil⟩⟩⟩⟩⟩⟩⟩⟩⟩⟩⟩⟩⟩⟩⟩⟩
theorem lw_p64 : lw_okq (⟨"LidForEachModel", "muchBy", "(I)I"⟩, 24) := ⟨⟨by decide +kernel, by decide +kernel⟩, List.mem_of_getElem? (i := 915) (by decide +kernel), List.mem_of_getElem? (i := 1191) (by decide +kernel), List.mem_of_getElem? (i := 1192) (by decide +kernel)⟩
theorem lw_p65 : lw_okq (⟨"LidForEachModel", "priceOf", "(I)I"⟩, 24) := ⟨⟨by decide +kernel, by decide +kernel⟩, List.mem_of_getElem? (i := 915) (by decide +kernel), List.mem_of_getElem? (i := 1218) (by decide +kernel), List.mem_of_getElem? (i := 1219) (by decide +kernel)⟩
theorem lw_p66 : lw_okq (⟨"LidForEachModel", "isEnough", "(I)Z"⟩, 24) := ⟨⟨by decide +kernel, by decide +kernel⟩, List.mem_of_getElem? (i := 915) (by decide +kernel), List.mem_of_getElem? (i := 1223) (by decide +kernel), List.mem_of_getElem? (i := 1224) (by decide +kernel)⟩
theorem lw_p67 : lw_okq (⟨"LidForEachModel", "buyOne", "(I)V"⟩, 24) := ⟨⟨by decide +kernel, by decide +kernel⟩, List.mem_of_getElem? (i := 915) (by decide +kernel), List.mem_of_getElem? (i := 1227) (by decide +kernel), List.mem_of_getElem? (i := 1228) (by decide +kernel)⟩
theorem lw_p68 : lw_okq (⟨"LidForEachModel", "firstOrder", "(I)V"⟩, 24) := ⟨⟨by decide +kernel, by decide +kernel⟩, List.mem_of_getElem? (i := 915) (by decide +kernel), List.mem_of_getElem? (i := 1235) (by decide +kernel), List.mem_of_getElem? (i := 1236) (by decide +kernel)⟩
theorem lw_p69 : lw_okq (⟨"LidForEachModel", "meanBy", "(I)J"⟩, 24) := ⟨⟨by decide +kernel, by decide +kernel⟩, List.mem_of_getElem? (i := 915) (by decide +kernel), List.mem_of_getElem? (i := 1240) (by decide +kernel), List.mem_of_getElem? (i := 1241) (by decide +kernel)⟩
theorem lw_p70 : lw_okq (⟨"LidForEachModel", "nextOrder", "(I)Z"⟩, 24) := ⟨⟨by decide +kernel, by decide +kernel⟩, List.mem_of_getElem? (i := 915) (by decide +kernel), List.mem_of_getElem? (i := 1245) (by decide +kernel), List.mem_of_getElem? (i := 1246) (by decide +kernel)⟩
theorem lw_p71 : lw_okq (⟨"LidForEachModel", "fraction", "(JJ)V"⟩, 24) := ⟨⟨by decide +kernel, by decide +kernel⟩, List.mem_of_getElem? (i := 915) (by decide +kernel), List.mem_of_getElem? (i := 1249) (by decide +kernel), List.mem_of_getElem? (i := 1250) (by decide +kernel)⟩
theorem lw_p72 : lw_okq (⟨"LidForEachModel", "whoHas", "(II)I"⟩, 24) := ⟨⟨by decide +kernel, by decide +kernel⟩, List.mem_of_getElem? (i := 915) (by decide +kernel), List.mem_of_getElem? (i := 1265) (by decide +kernel), List.mem_of_getElem? (i := 1266) (by decide +kernel)⟩
theorem lw_p73 : lw_okq (⟨"LidForEachModel", "findWays", "()I"⟩, 24) := ⟨⟨by decide +kernel, by decide +kernel⟩, List.mem_of_getElem? (i := 915) (by decide +kernel), List.mem_of_getElem? (i := 1285) (by decide +kernel), List.mem_of_getElem? (i := 1286) (by decide +kernel)⟩
theorem lw_p74 : lw_okq (⟨"LidForEachModel", "isSo", "()Z"⟩, 24) := ⟨⟨by decide +kernel, by decide +kernel⟩, List.mem_of_getElem? (i := 915) (by decide +kernel), List.mem_of_getElem? (i := 1289) (by decide +kernel), List.mem_of_getElem? (i := 1290) (by decide +kernel)⟩
theorem lw_p75 : lw_okq (⟨"LidForEachModel", "counted", "(I)I"⟩, 24) := ⟨⟨by decide +kernel, by decide +kernel⟩, List.mem_of_getElem? (i := 915) (by decide +kernel), List.mem_of_getElem? (i := 1322) (by decide +kernel), List.mem_of_getElem? (i := 1323) (by decide +kernel)⟩
theorem lw_p76 : lw_okq (⟨"LidForEachModel", "digested", "(JII)J"⟩, 24) := ⟨⟨by decide +kernel, by decide +kernel⟩, List.mem_of_getElem? (i := 915) (by decide +kernel), List.mem_of_getElem? (i := 1332) (by decide +kernel), List.mem_of_getElem? (i := 1333) (by decide +kernel)⟩
def lw_privs_5 : List (MethodName × Nat) := [(⟨"LidForEachModel", "muchBy", "(I)I"⟩, 24), (⟨"LidForEachModel", "priceOf", "(I)I"⟩, 24), (⟨"LidForEachModel", "isEnough", "(I)Z"⟩, 24), (⟨"LidForEachModel", "buyOne", "(I)V"⟩, 24), (⟨"LidForEachModel", "firstOrder", "(I)V"⟩, 24), (⟨"LidForEachModel", "meanBy", "(I)J"⟩, 24), (⟨"LidForEachModel", "nextOrder", "(I)Z"⟩, 24), (⟨"LidForEachModel", "fraction", "(JJ)V"⟩, 24), (⟨"LidForEachModel", "whoHas", "(II)I"⟩, 24), (⟨"LidForEachModel", "findWays", "()I"⟩, 24), (⟨"LidForEachModel", "isSo", "()Z"⟩, 24), (⟨"LidForEachModel", "counted", "(I)I"⟩, 24), (⟨"LidForEachModel", "digested", "(JII)J"⟩, 24)]
theorem lw_r5 : ∀ q ∈ lw_privs_5, lw_okq q := List.forall_mem_cons.mpr ⟨lw_p64, List.forall_mem_cons.mpr ⟨lw_p65, List.forall_mem_cons.mpr ⟨lw_p66, List.forall_mem_cons.mpr ⟨lw_p67, List.forall_mem_cons.mpr ⟨lw_p68, List.forall_mem_cons.mpr ⟨lw_p69, List.forall_mem_cons.mpr ⟨lw_p70, List.forall_mem_cons.mpr ⟨lw_p71, List.forall_mem_cons.mpr ⟨lw_p72, List.forall_mem_cons.mpr ⟨lw_p73, List.forall_mem_cons.mpr ⟨lw_p74, List.forall_mem_cons.mpr ⟨lw_p75, List.forall_mem_cons.mpr ⟨lw_p76, fun _ h => absurd h List.not_mem_nil⟩⟩⟩⟩⟩⟩⟩⟩⟩⟩⟩⟩⟩
def lw_privs : List (MethodName × Nat) := lw_privs_1 ++ (lw_privs_2 ++ (lw_privs_3 ++ (lw_privs_4 ++ (lw_privs_5))))
def lw_tbl : List Cond := k2_sels lw_privs ++ tables_1
theorem lw_privs_ok : ∀ q ∈ lw_privs, lw_okq q := by
  show ∀ q ∈ lw_privs_1 ++ (lw_privs_2 ++ (lw_privs_3 ++ (lw_privs_4 ++ (lw_privs_5)))), lw_okq q
  exact List.forall_mem_append.mpr ⟨lw_r1, List.forall_mem_append.mpr ⟨lw_r2, List.forall_mem_append.mpr ⟨lw_r3, List.forall_mem_append.mpr ⟨lw_r4, lw_r5⟩⟩⟩⟩
end
section
def RX0 : String := "LidForEach$Crowds"
def TX0 : u_T := fun k => match k with
  | 0 => ("LidForEach$Crowds", "reach", "[I", true)
  | 1 => ("LidForEach$Crowds", "lidded", "[Z", true)
  | _ => ("LidForEach$Crowds", "sets", "I", false)
def tyX0 : Nat → FieldType := fun k => match k with
  | 0 => .array .int
  | 1 => .array .boolean
  | _ => .int
abbrev wsX00 : List Cond := u_ws RX0 TX0 3
theorem nmX0 : ∀ a, a < 3 → ∀ b, b < 3 → a ≠ b → (TX0 a).2.1 ≠ (TX0 b).2.1 := by decide +kernel
theorem tyX0_ok : ∀ k, k < 3 → parseFieldDescriptor (TX0 k).2.2.1 = some (tyX0 k) := by decide +kernel
abbrev cX0_init : ByteArray := prog_2_method_1_code
def yX0_init : MethodName := ⟨RX0, "<init>", "()V"⟩
abbrev cX0_lookAt : ByteArray := prog_2_method_2_code
def yX0_lookAt : MethodName := ⟨RX0, "lookAt", "(LLidForEach$Cupboard;)V"⟩
abbrev cX0_lackOf : ByteArray := prog_2_method_3_code
def yX0_lackOf : MethodName := ⟨RX0, "lackOf", "(I)I"⟩
abbrev cX0_areLiddedWithoutOne : ByteArray := prog_2_method_4_code
def yX0_areLiddedWithoutOne : MethodName := ⟨RX0, "areLiddedWithoutOne", "(I)Z"⟩
abbrev cX0_shortest : ByteArray := prog_2_method_5_code
def yX0_shortest : MethodName := ⟨RX0, "shortest", "()I"⟩
abbrev cX0_leastFor : ByteArray := prog_2_method_6_code
def yX0_leastFor : MethodName := ⟨RX0, "leastFor", "(LLidForEach$Cupboard;I)I"⟩
def RX1 : String := "LidForEach$Cupboard"
def TX1 : u_T := fun k => match k with
  | 0 => ("LidForEach$Cupboard", "boxes", "LLidForEach$Table;", true)
  | 1 => ("LidForEach$Cupboard", "lids", "LLidForEach$Table;", true)
  | 2 => ("LidForEach$Cupboard", "sorts", "LLidForEach$Table;", true)
  | 3 => ("LidForEach$Cupboard", "tales", "LLidForEach$Table;", true)
  | 4 => ("LidForEach$Cupboard", "hints", "LLidForEach$Table;", true)
  | _ => ("LidForEach$Cupboard", "undos", "LLidForEach$Table;", true)
def tyX1 : Nat → FieldType := fun k => match k with
  | 0 => .object "LidForEach$Table"
  | 1 => .object "LidForEach$Table"
  | 2 => .object "LidForEach$Table"
  | 3 => .object "LidForEach$Table"
  | 4 => .object "LidForEach$Table"
  | _ => .object "LidForEach$Table"
abbrev wsX10 : List Cond := u_ws RX1 TX1 6
theorem nmX1 : ∀ a, a < 6 → ∀ b, b < 6 → a ≠ b → (TX1 a).2.1 ≠ (TX1 b).2.1 := by decide +kernel
theorem tyX1_ok : ∀ k, k < 6 → parseFieldDescriptor (TX1 k).2.2.1 = some (tyX1 k) := by decide +kernel
abbrev cX1_init : ByteArray := prog_3_method_1_code
def yX1_init : MethodName := ⟨RX1, "<init>", "()V"⟩
abbrev cX1_empty : ByteArray := prog_3_method_2_code
def yX1_empty : MethodName := ⟨RX1, "empty", "()V"⟩
abbrev cX1_become : ByteArray := prog_3_method_3_code
def yX1_become : MethodName := ⟨RX1, "become", "(LLidForEach$Cupboard;)V"⟩
abbrev cX1_addBox : ByteArray := prog_3_method_4_code
def yX1_addBox : MethodName := ⟨RX1, "addBox", "(III)I"⟩
abbrev cX1_addLid : ByteArray := prog_3_method_5_code
def yX1_addLid : MethodName := ⟨RX1, "addLid", "(III)I"⟩
abbrev cX1_addSort : ByteArray := prog_3_method_6_code
def yX1_addSort : MethodName := ⟨RX1, "addSort", "(IIII)I"⟩
abbrev cX1_isKind : ByteArray := prog_3_method_7_code
def yX1_isKind : MethodName := ⟨RX1, "isKind", "(I)Z"⟩
abbrev cX1_isFormAndSize : ByteArray := prog_3_method_8_code
def yX1_isFormAndSize : MethodName := ⟨RX1, "isFormAndSize", "(II)Z"⟩
abbrev cX1_putOn : ByteArray := prog_3_method_9_code
def yX1_putOn : MethodName := ⟨RX1, "putOn", "(II)I"⟩
abbrev cX1_takeOff : ByteArray := prog_3_method_10_code
def yX1_takeOff : MethodName := ⟨RX1, "takeOff", "(I)I"⟩
abbrev cX1_remember : ByteArray := prog_3_method_11_code
def yX1_remember : MethodName := ⟨RX1, "remember", "(III)V"⟩
abbrev cX1_stepBack : ByteArray := prog_3_method_12_code
def yX1_stepBack : MethodName := ⟨RX1, "stepBack", "()I"⟩
abbrev cX1_boxUnder : ByteArray := prog_3_method_13_code
def yX1_boxUnder : MethodName := ⟨RX1, "boxUnder", "(I)I"⟩
abbrev cX1_lidsInUse : ByteArray := prog_3_method_14_code
def yX1_lidsInUse : MethodName := ⟨RX1, "lidsInUse", "()I"⟩
abbrev cX1_changeGrasps : ByteArray := prog_3_method_15_code
def yX1_changeGrasps : MethodName := ⟨RX1, "changeGrasps", "(II)I"⟩
abbrev cX1_changeChance : ByteArray := prog_3_method_16_code
def yX1_changeChance : MethodName := ⟨RX1, "changeChance", "(II)I"⟩
abbrev cX1_firstSureLid : ByteArray := prog_3_method_17_code
def yX1_firstSureLid : MethodName := ⟨RX1, "firstSureLid", "()I"⟩
abbrev cX1_rowFits : ByteArray := prog_3_method_18_code
def yX1_rowFits : MethodName := ⟨RX1, "rowFits", "(LLidForEach$Table;II)Z"⟩
abbrev cX1_lidsFor : ByteArray := prog_3_method_19_code
def yX1_lidsFor : MethodName := ⟨RX1, "lidsFor", "(I)I"⟩
abbrev cX1_boxesAround : ByteArray := prog_3_method_20_code
def yX1_boxesAround : MethodName := ⟨RX1, "boxesAround", "(I)I"⟩
abbrev cX1_goesInto : ByteArray := prog_3_method_21_code
def yX1_goesInto : MethodName := ⟨RX1, "goesInto", "(II)Z"⟩
abbrev cX1_purchaseFor : ByteArray := prog_3_method_22_code
def yX1_purchaseFor : MethodName := ⟨RX1, "purchaseFor", "(I)I"⟩
abbrev cX1_sumOver : ByteArray := prog_3_method_23_code
def yX1_sumOver : MethodName := ⟨RX1, "sumOver", "(II)I"⟩
abbrev cX1_addTale : ByteArray := prog_3_method_24_code
def yX1_addTale : MethodName := ⟨RX1, "addTale", "(III)I"⟩
abbrev cX1_holderAfter : ByteArray := prog_3_method_25_code
def yX1_holderAfter : MethodName := ⟨RX1, "holderAfter", "(II)I"⟩
abbrev cX1_firstWrongTale : ByteArray := prog_3_method_26_code
def yX1_firstWrongTale : MethodName := ⟨RX1, "firstWrongTale", "()I"⟩
abbrev cX1_addHint : ByteArray := prog_3_method_27_code
def yX1_addHint : MethodName := ⟨RX1, "addHint", "(III)I"⟩
abbrev cX1_openAfter : ByteArray := prog_3_method_28_code
def yX1_openAfter : MethodName := ⟨RX1, "openAfter", "(II)I"⟩
def RX2 : String := "LidForEach$Foods"
def TX2 : u_T := fun k => match k with
  | 0 => ("LidForEach$Foods", "sizes", "[I", true)
  | 1 => ("LidForEach$Foods", "allowed", "[I", true)
  | 2 => ("LidForEach$Foods", "inLesserBoxes", "[I", true)
  | 3 => ("LidForEach$Foods", "inSmallerBoxes", "[I", true)
  | 4 => ("LidForEach$Foods", "inGreaterBoxes", "[I", true)
  | 5 => ("LidForEach$Foods", "places", "[I", true)
  | 6 => ("LidForEach$Foods", "waysByBoxAndFood", "[I", true)
  | 7 => ("LidForEach$Foods", "boxes", "I", false)
  | _ => ("LidForEach$Foods", "ways", "I", false)
def tyX2 : Nat → FieldType := fun k => match k with
  | 0 => .array .int
  | 1 => .array .int
  | 2 => .array .int
  | 3 => .array .int
  | 4 => .array .int
  | 5 => .array .int
  | 6 => .array .int
  | 7 => .int
  | _ => .int
abbrev wsX20 : List Cond := u_ws RX2 TX2 9
theorem nmX2 : ∀ a, a < 9 → ∀ b, b < 9 → a ≠ b → (TX2 a).2.1 ≠ (TX2 b).2.1 := by decide +kernel
theorem tyX2_ok : ∀ k, k < 9 → parseFieldDescriptor (TX2 k).2.2.1 = some (tyX2 k) := by decide +kernel
abbrev cX2_init : ByteArray := prog_4_method_1_code
def yX2_init : MethodName := ⟨RX2, "<init>", "()V"⟩
abbrev cX2_lookAt : ByteArray := prog_4_method_2_code
def yX2_lookAt : MethodName := ⟨RX2, "lookAt", "(LLidForEach$Cupboard;)V"⟩
abbrev cX2_heed : ByteArray := prog_4_method_3_code
def yX2_heed : MethodName := ⟨RX2, "heed", "(III)V"⟩
abbrev cX2_waysFrom : ByteArray := prog_4_method_4_code
def yX2_waysFrom : MethodName := ⟨RX2, "waysFrom", "(LLidForEach$Foods;II)I"⟩
abbrev cX2_mayBeIn : ByteArray := prog_4_method_5_code
def yX2_mayBeIn : MethodName := ⟨RX2, "mayBeIn", "(III)Z"⟩
abbrev cX2_agreesBySize : ByteArray := prog_4_method_6_code
def yX2_agreesBySize : MethodName := ⟨RX2, "agreesBySize", "(III)Z"⟩
abbrev cX2_sizeAt : ByteArray := prog_4_method_7_code
def yX2_sizeAt : MethodName := ⟨RX2, "sizeAt", "(I)I"⟩
abbrev cX2_allWays : ByteArray := prog_4_method_8_code
def yX2_allWays : MethodName := ⟨RX2, "allWays", "()I"⟩
abbrev cX2_waysWith : ByteArray := prog_4_method_9_code
def yX2_waysWith : MethodName := ⟨RX2, "waysWith", "(II)I"⟩
abbrev cX2_boxesOf : ByteArray := prog_4_method_10_code
def yX2_boxesOf : MethodName := ⟨RX2, "boxesOf", "(I)I"⟩
abbrev cX2_boxToOpen : ByteArray := prog_4_method_11_code
def yX2_boxToOpen : MethodName := ⟨RX2, "boxToOpen", "()I"⟩
abbrev cX2_worstBehind : ByteArray := prog_4_method_12_code
def yX2_worstBehind : MethodName := ⟨RX2, "worstBehind", "(I)I"⟩
def RX3 : String := "LidForEach$Fraction"
def TX3 : u_T := fun k => match k with
  | 0 => ("LidForEach$Fraction", "above", "J", false)
  | _ => ("LidForEach$Fraction", "below", "J", false)
def tyX3 : Nat → FieldType := fun k => match k with
  | 0 => .long
  | _ => .long
abbrev wsX30 : List Cond := u_ws RX3 TX3 2
theorem nmX3 : ∀ a, a < 2 → ∀ b, b < 2 → a ≠ b → (TX3 a).2.1 ≠ (TX3 b).2.1 := by decide +kernel
theorem tyX3_ok : ∀ k, k < 2 → parseFieldDescriptor (TX3 k).2.2.1 = some (tyX3 k) := by decide +kernel
abbrev cX3_init : ByteArray := prog_5_method_1_code
def yX3_init : MethodName := ⟨RX3, "<init>", "()V"⟩
abbrev cX3_become : ByteArray := prog_5_method_2_code
def yX3_become : MethodName := ⟨RX3, "become", "(JJ)V"⟩
abbrev cX3_greatestDivisor : ByteArray := prog_5_method_3_code
def yX3_greatestDivisor : MethodName := ⟨RX3, "greatestDivisor", "(JJ)J"⟩
def RX4 : String := "LidForEach$Pairs"
def TX4 : u_T := fun k => match k with
  | 0 => ("LidForEach$Pairs", "options", "[I", true)
  | 1 => ("LidForEach$Pairs", "worths", "[I", true)
  | 2 => ("LidForEach$Pairs", "best", "[I", true)
  | 3 => ("LidForEach$Pairs", "rows", "I", false)
  | _ => ("LidForEach$Pairs", "columns", "I", false)
def tyX4 : Nat → FieldType := fun k => match k with
  | 0 => .array .int
  | 1 => .array .int
  | 2 => .array .int
  | 3 => .int
  | _ => .int
abbrev wsX40 : List Cond := u_ws RX4 TX4 5
theorem nmX4 : ∀ a, a < 5 → ∀ b, b < 5 → a ≠ b → (TX4 a).2.1 ≠ (TX4 b).2.1 := by decide +kernel
theorem tyX4_ok : ∀ k, k < 5 → parseFieldDescriptor (TX4 k).2.2.1 = some (tyX4 k) := by decide +kernel
abbrev cX4_init : ByteArray := prog_6_method_1_code
def yX4_init : MethodName := ⟨RX4, "<init>", "()V"⟩
abbrev cX4_begin : ByteArray := prog_6_method_2_code
def yX4_begin : MethodName := ⟨RX4, "begin", "(I)V"⟩
abbrev cX4_addRow : ByteArray := prog_6_method_3_code
def yX4_addRow : MethodName := ⟨RX4, "addRow", "(II)V"⟩
abbrev cX4_solve : ByteArray := prog_6_method_4_code
def yX4_solve : MethodName := ⟨RX4, "solve", "()V"⟩
abbrev cX4_bestOf : ByteArray := prog_6_method_5_code
def yX4_bestOf : MethodName := ⟨RX4, "bestOf", "(II)I"⟩
abbrev cX4_bestWith : ByteArray := prog_6_method_6_code
def yX4_bestWith : MethodName := ⟨RX4, "bestWith", "(III)I"⟩
abbrev cX4_bestFrom : ByteArray := prog_6_method_7_code
def yX4_bestFrom : MethodName := ⟨RX4, "bestFrom", "(II)I"⟩
abbrev cX4_bestWithout : ByteArray := prog_6_method_8_code
def yX4_bestWithout : MethodName := ⟨RX4, "bestWithout", "(I)I"⟩
abbrev cX4_partner : ByteArray := prog_6_method_9_code
def yX4_partner : MethodName := ⟨RX4, "partner", "(I)I"⟩
abbrev cX4_leastColumn : ByteArray := prog_6_method_10_code
def yX4_leastColumn : MethodName := ⟨RX4, "leastColumn", "(II)I"⟩
def RX5 : String := "LidForEach$Ranking"
def TX5 : u_T := fun k => match k with
  | 0 => ("LidForEach$Ranking", "keys", "[I", true)
  | _ => ("LidForEach$Ranking", "size", "I", false)
def tyX5 : Nat → FieldType := fun k => match k with
  | 0 => .array .int
  | _ => .int
abbrev wsX50 : List Cond := u_ws RX5 TX5 2
theorem nmX5 : ∀ a, a < 2 → ∀ b, b < 2 → a ≠ b → (TX5 a).2.1 ≠ (TX5 b).2.1 := by decide +kernel
theorem tyX5_ok : ∀ k, k < 2 → parseFieldDescriptor (TX5 k).2.2.1 = some (tyX5 k) := by decide +kernel
abbrev cX5_init : ByteArray := prog_7_method_1_code
def yX5_init : MethodName := ⟨RX5, "<init>", "()V"⟩
abbrev cX5_begin : ByteArray := prog_7_method_2_code
def yX5_begin : MethodName := ⟨RX5, "begin", "()V"⟩
abbrev cX5_add : ByteArray := prog_7_method_3_code
def yX5_add : MethodName := ⟨RX5, "add", "(I)V"⟩
abbrev cX5_itemAt : ByteArray := prog_7_method_4_code
def yX5_itemAt : MethodName := ⟨RX5, "itemAt", "(I)I"⟩
abbrev cX5_placeOf : ByteArray := prog_7_method_5_code
def yX5_placeOf : MethodName := ⟨RX5, "placeOf", "(I)I"⟩
def RX6 : String := "LidForEach$Table"
def TX6 : u_T := fun k => match k with
  | 0 => ("LidForEach$Table", "width", "I", true)
  | 1 => ("LidForEach$Table", "room", "I", true)
  | 2 => ("LidForEach$Table", "cells", "[I", true)
  | _ => ("LidForEach$Table", "rows", "I", false)
def tyX6 : Nat → FieldType := fun k => match k with
  | 0 => .int
  | 1 => .int
  | 2 => .array .int
  | _ => .int
abbrev wsX60 : List Cond := u_ws RX6 TX6 4
theorem nmX6 : ∀ a, a < 4 → ∀ b, b < 4 → a ≠ b → (TX6 a).2.1 ≠ (TX6 b).2.1 := by decide +kernel
theorem tyX6_ok : ∀ k, k < 4 → parseFieldDescriptor (TX6 k).2.2.1 = some (tyX6 k) := by decide +kernel
abbrev cX6_init : ByteArray := prog_8_method_1_code
def yX6_init : MethodName := ⟨RX6, "<init>", "(II)V"⟩
abbrev cX6_size : ByteArray := prog_8_method_2_code
def yX6_size : MethodName := ⟨RX6, "size", "()I"⟩
abbrev cX6_contains : ByteArray := prog_8_method_3_code
def yX6_contains : MethodName := ⟨RX6, "contains", "(I)Z"⟩
abbrev cX6_isCell : ByteArray := prog_8_method_4_code
def yX6_isCell : MethodName := ⟨RX6, "isCell", "(II)Z"⟩
abbrev cX6_at : ByteArray := prog_8_method_5_code
def yX6_at : MethodName := ⟨RX6, "at", "(II)I"⟩
abbrev cX6_change : ByteArray := prog_8_method_6_code
def yX6_change : MethodName := ⟨RX6, "change", "(III)V"⟩
abbrev cX6_add : ByteArray := prog_8_method_7_code
def yX6_add : MethodName := ⟨RX6, "add", "(III)I"⟩
abbrev cX6_dropLast : ByteArray := prog_8_method_8_code
def yX6_dropLast : MethodName := ⟨RX6, "dropLast", "()V"⟩
abbrev cX6_dropFirst : ByteArray := prog_8_method_9_code
def yX6_dropFirst : MethodName := ⟨RX6, "dropFirst", "()V"⟩
abbrev cX6_drop : ByteArray := prog_8_method_10_code
def yX6_drop : MethodName := ⟨RX6, "drop", "()I"⟩
abbrev cX6_become : ByteArray := prog_8_method_11_code
def yX6_become : MethodName := ⟨RX6, "become", "(LLidForEach$Table;)V"⟩
abbrev cX6_mixedInto : ByteArray := prog_8_method_12_code
def yX6_mixedInto : MethodName := ⟨RX6, "mixedInto", "(J)J"⟩
def RX7 : String := "LidForEach$Text"
def TX7 : u_T := fun k => match k with
  | 0 => ("LidForEach$Text", "bytes", "[B", true)
  | 1 => ("LidForEach$Text", "numbers", "[I", true)
  | 2 => ("LidForEach$Text", "length", "I", false)
  | 3 => ("LidForEach$Text", "start", "I", false)
  | 4 => ("LidForEach$Text", "end", "I", false)
  | 5 => ("LidForEach$Text", "token", "I", false)
  | 6 => ("LidForEach$Text", "value", "I", false)
  | _ => ("LidForEach$Text", "itemWord", "I", false)
def tyX7 : Nat → FieldType := fun k => match k with
  | 0 => .array .byte
  | 1 => .array .int
  | 2 => .int
  | 3 => .int
  | 4 => .int
  | 5 => .int
  | 6 => .int
  | _ => .int
abbrev wsX70 : List Cond := u_ws RX7 TX7 8
theorem nmX7 : ∀ a, a < 8 → ∀ b, b < 8 → a ≠ b → (TX7 a).2.1 ≠ (TX7 b).2.1 := by decide +kernel
theorem tyX7_ok : ∀ k, k < 8 → parseFieldDescriptor (TX7 k).2.2.1 = some (tyX7 k) := by decide +kernel
abbrev cX7_init : ByteArray := prog_9_method_1_code
def yX7_init : MethodName := ⟨RX7, "<init>", "()V"⟩
abbrev cX7_size : ByteArray := prog_9_method_2_code
def yX7_size : MethodName := ⟨RX7, "size", "()I"⟩
abbrev cX7_append : ByteArray := prog_9_method_3_code
def yX7_append : MethodName := ⟨RX7, "append", "(I)I"⟩
abbrev cX7_drop : ByteArray := prog_9_method_4_code
def yX7_drop : MethodName := ⟨RX7, "drop", "()I"⟩
abbrev cX7_rewind : ByteArray := prog_9_method_5_code
def yX7_rewind : MethodName := ⟨RX7, "rewind", "()V"⟩
abbrev cX7_isAtEnd : ByteArray := prog_9_method_6_code
def yX7_isAtEnd : MethodName := ⟨RX7, "isAtEnd", "()Z"⟩
abbrev cX7_place : ByteArray := prog_9_method_7_code
def yX7_place : MethodName := ⟨RX7, "place", "()I"⟩
abbrev cX7_word : ByteArray := prog_9_method_8_code
def yX7_word : MethodName := ⟨RX7, "word", "()I"⟩
abbrev cX7_numberAt : ByteArray := prog_9_method_9_code
def yX7_numberAt : MethodName := ⟨RX7, "numberAt", "(I)I"⟩
abbrev cX7_takeItem : ByteArray := prog_9_method_10_code
def yX7_takeItem : MethodName := ⟨RX7, "takeItem", "()Z"⟩
abbrev cX7_numbersDue : ByteArray := prog_9_method_11_code
def yX7_numbersDue : MethodName := ⟨RX7, "numbersDue", "(I)I"⟩
abbrev cX7_advance : ByteArray := prog_9_method_12_code
def yX7_advance : MethodName := ⟨RX7, "advance", "()V"⟩
abbrev cX7_advanceOverWord : ByteArray := prog_9_method_13_code
def yX7_advanceOverWord : MethodName := ⟨RX7, "advanceOverWord", "()V"⟩
abbrev cX7_advanceOverNumber : ByteArray := prog_9_method_14_code
def yX7_advanceOverNumber : MethodName := ⟨RX7, "advanceOverNumber", "()V"⟩
abbrev cX7_byteAt : ByteArray := prog_9_method_15_code
def yX7_byteAt : MethodName := ⟨RX7, "byteAt", "(I)I"⟩
abbrev cX7_isLetter : ByteArray := prog_9_method_16_code
def yX7_isLetter : MethodName := ⟨RX7, "isLetter", "(I)Z"⟩
abbrev cX7_isFigure : ByteArray := prog_9_method_17_code
def yX7_isFigure : MethodName := ⟨RX7, "isFigure", "(I)Z"⟩
abbrev cX7_wordNumber : ByteArray := prog_9_method_18_code
def yX7_wordNumber : MethodName := ⟨RX7, "wordNumber", "()I"⟩
abbrev cX7_nameOf : ByteArray := prog_9_method_19_code
def yX7_nameOf : MethodName := ⟨RX7, "nameOf", "(I)Ljava/lang/String;"⟩
abbrev cX7_spells : ByteArray := prog_9_method_20_code
def yX7_spells : MethodName := ⟨RX7, "spells", "(Ljava/lang/String;)Z"⟩
def RX8 : String := "LidForEach"
def TX8 : u_T := fun k => match k with
  | 0 => ("LidForEach", "now", "LLidForEach$Cupboard;", true)
  | 1 => ("LidForEach", "draft", "LLidForEach$Cupboard;", true)
  | 2 => ("LidForEach", "firstImage", "LLidForEach$Cupboard;", true)
  | 3 => ("LidForEach", "secondImage", "LLidForEach$Cupboard;", true)
  | 4 => ("LidForEach", "text", "LLidForEach$Text;", true)
  | 5 => ("LidForEach", "pairs", "LLidForEach$Pairs;", true)
  | 6 => ("LidForEach", "crowds", "LLidForEach$Crowds;", true)
  | 7 => ("LidForEach", "ranking", "LLidForEach$Ranking;", true)
  | 8 => ("LidForEach", "foods", "LLidForEach$Foods;", true)
  | 9 => ("LidForEach", "fraction", "LLidForEach$Fraction;", true)
  | 10 => ("LidForEach", "keptImages", "I", false)
  | 11 => ("LidForEach", "badCalls", "I", false)
  | 12 => ("LidForEach", "noCalls", "I", false)
  | _ => ("LidForEach", "fullCalls", "I", false)
def tyX8 : Nat → FieldType := fun k => match k with
  | 0 => .object "LidForEach$Cupboard"
  | 1 => .object "LidForEach$Cupboard"
  | 2 => .object "LidForEach$Cupboard"
  | 3 => .object "LidForEach$Cupboard"
  | 4 => .object "LidForEach$Text"
  | 5 => .object "LidForEach$Pairs"
  | 6 => .object "LidForEach$Crowds"
  | 7 => .object "LidForEach$Ranking"
  | 8 => .object "LidForEach$Foods"
  | 9 => .object "LidForEach$Fraction"
  | 10 => .int
  | 11 => .int
  | 12 => .int
  | _ => .int
abbrev wsX80 : List Cond := u_ws RX8 TX8 14
theorem nmX8 : ∀ a, a < 14 → ∀ b, b < 14 → a ≠ b → (TX8 a).2.1 ≠ (TX8 b).2.1 := by decide +kernel
theorem tyX8_ok : ∀ k, k < 14 → parseFieldDescriptor (TX8 k).2.2.1 = some (tyX8 k) := by decide +kernel
abbrev cX8_init : ByteArray := prog_1_method_1_code
def yX8_init : MethodName := ⟨RX8, "<init>", "()V"⟩
abbrev cX8_box : ByteArray := prog_1_method_2_code
def yX8_box : MethodName := ⟨RX8, "box", "(III)I"⟩
abbrev cX8_lid : ByteArray := prog_1_method_3_code
def yX8_lid : MethodName := ⟨RX8, "lid", "(III)I"⟩
abbrev cX8_put : ByteArray := prog_1_method_4_code
def yX8_put : MethodName := ⟨RX8, "put", "(II)I"⟩
abbrev cX8_off : ByteArray := prog_1_method_5_code
def yX8_off : MethodName := ⟨RX8, "off", "(I)I"⟩
abbrev cX8_undo : ByteArray := prog_1_method_6_code
def yX8_undo : MethodName := ⟨RX8, "undo", "()I"⟩
abbrev cX8_on : ByteArray := prog_1_method_7_code
def yX8_on : MethodName := ⟨RX8, "on", "(I)I"⟩
abbrev cX8_grasp : ByteArray := prog_1_method_8_code
def yX8_grasp : MethodName := ⟨RX8, "grasp", "(II)I"⟩
abbrev cX8_sort : ByteArray := prog_1_method_9_code
def yX8_sort : MethodName := ⟨RX8, "sort", "(IIII)I"⟩
abbrev cX8_eye : ByteArray := prog_1_method_10_code
def yX8_eye : MethodName := ⟨RX8, "eye", "(II)I"⟩
abbrev cX8_type : ByteArray := prog_1_method_11_code
def yX8_type : MethodName := ⟨RX8, "type", "(I)I"⟩
abbrev cX8_clear : ByteArray := prog_1_method_12_code
def yX8_clear : MethodName := ⟨RX8, "clear", "()I"⟩
abbrev cX8_read : ByteArray := prog_1_method_13_code
def yX8_read : MethodName := ⟨RX8, "read", "()I"⟩
abbrev cX8_fits : ByteArray := prog_1_method_14_code
def yX8_fits : MethodName := ⟨RX8, "fits", "(I)I"⟩
abbrev cX8_most : ByteArray := prog_1_method_15_code
def yX8_most : MethodName := ⟨RX8, "most", "(I)I"⟩
abbrev cX8_lacking : ByteArray := prog_1_method_16_code
def yX8_lacking : MethodName := ⟨RX8, "lacking", "()I"⟩
abbrev cX8_soup : ByteArray := prog_1_method_17_code
def yX8_soup : MethodName := ⟨RX8, "soup", "(II)I"⟩
abbrev cX8_much : ByteArray := prog_1_method_18_code
def yX8_much : MethodName := ⟨RX8, "much", "()I"⟩
abbrev cX8_worth : ByteArray := prog_1_method_19_code
def yX8_worth : MethodName := ⟨RX8, "worth", "(I)I"⟩
abbrev cX8_spare : ByteArray := prog_1_method_20_code
def yX8_spare : MethodName := ⟨RX8, "spare", "()I"⟩
abbrev cX8_piles : ByteArray := prog_1_method_21_code
def yX8_piles : MethodName := ⟨RX8, "piles", "(I)I"⟩
abbrev cX8_shelf : ByteArray := prog_1_method_22_code
def yX8_shelf : MethodName := ⟨RX8, "shelf", "(I)I"⟩
abbrev cX8_buy : ByteArray := prog_1_method_23_code
def yX8_buy : MethodName := ⟨RX8, "buy", "(I)I"⟩
abbrev cX8_tries : ByteArray := prog_1_method_24_code
def yX8_tries : MethodName := ⟨RX8, "tries", "(I)I"⟩
abbrev cX8_nuts : ByteArray := prog_1_method_25_code
def yX8_nuts : MethodName := ⟨RX8, "nuts", "(II)I"⟩
abbrev cX8_lend : ByteArray := prog_1_method_26_code
def yX8_lend : MethodName := ⟨RX8, "lend", "(III)I"⟩
abbrev cX8_has : ByteArray := prog_1_method_27_code
def yX8_has : MethodName := ⟨RX8, "has", "(I)I"⟩
abbrev cX8_wrong : ByteArray := prog_1_method_28_code
def yX8_wrong : MethodName := ⟨RX8, "wrong", "()I"⟩
abbrev cX8_hint : ByteArray := prog_1_method_29_code
def yX8_hint : MethodName := ⟨RX8, "hint", "(III)I"⟩
abbrev cX8_forget : ByteArray := prog_1_method_30_code
def yX8_forget : MethodName := ⟨RX8, "forget", "(I)I"⟩
abbrev cX8_labels : ByteArray := prog_1_method_31_code
def yX8_labels : MethodName := ⟨RX8, "labels", "(II)I"⟩
abbrev cX8_evening : ByteArray := prog_1_method_32_code
def yX8_evening : MethodName := ⟨RX8, "evening", "(II)I"⟩
abbrev cX8_part : ByteArray := prog_1_method_33_code
def yX8_part : MethodName := ⟨RX8, "part", "(I)J"⟩
abbrev cX8_image : ByteArray := prog_1_method_34_code
def yX8_image : MethodName := ⟨RX8, "image", "(I)I"⟩
abbrev cX8_from : ByteArray := prog_1_method_35_code
def yX8_from : MethodName := ⟨RX8, "from", "(I)I"⟩
abbrev cX8_status : ByteArray := prog_1_method_36_code
def yX8_status : MethodName := ⟨RX8, "status", "(I)I"⟩
abbrev cX8_count : ByteArray := prog_1_method_37_code
def yX8_count : MethodName := ⟨RX8, "count", "(I)I"⟩
abbrev cX8_digest : ByteArray := prog_1_method_38_code
def yX8_digest : MethodName := ⟨RX8, "digest", "()J"⟩
abbrev cX8_told : ByteArray := prog_1_method_39_code
def yX8_told : MethodName := ⟨RX8, "told", "(I)I"⟩
abbrev cX8_badToldApart : ByteArray := prog_1_method_40_code
def yX8_badToldApart : MethodName := ⟨RX8, "badToldApart", "()I"⟩
abbrev cX8_within : ByteArray := prog_1_method_41_code
def yX8_within : MethodName := ⟨RX8, "within", "(III)Z"⟩
abbrev cX8_howMany : ByteArray := prog_1_method_42_code
def yX8_howMany : MethodName := ⟨RX8, "howMany", "(I)I"⟩
abbrev cX8_imageAt : ByteArray := prog_1_method_43_code
def yX8_imageAt : MethodName := ⟨RX8, "imageAt", "(I)LLidForEach$Cupboard;"⟩
abbrev cX8_tellItem : ByteArray := prog_1_method_44_code
def yX8_tellItem : MethodName := ⟨RX8, "tellItem", "(LLidForEach$Cupboard;)I"⟩
abbrev cX8_pairLids : ByteArray := prog_1_method_45_code
def yX8_pairLids : MethodName := ⟨RX8, "pairLids", "(Z)V"⟩
abbrev cX8_shelfCost : ByteArray := prog_1_method_46_code
def yX8_shelfCost : MethodName := ⟨RX8, "shelfCost", "(I)I"⟩
abbrev cX8_leastPurchase : ByteArray := prog_1_method_47_code
def yX8_leastPurchase : MethodName := ⟨RX8, "leastPurchase", "()I"⟩
abbrev cX8_sortShift : ByteArray := prog_1_method_48_code
def yX8_sortShift : MethodName := ⟨RX8, "sortShift", "(I)I"⟩
abbrev cX8_rankTries : ByteArray := prog_1_method_49_code
def yX8_rankTries : MethodName := ⟨RX8, "rankTries", "()V"⟩
abbrev cX8_meanOfTries : ByteArray := prog_1_method_50_code
def yX8_meanOfTries : MethodName := ⟨RX8, "meanOfTries", "()V"⟩
abbrev cX8_meanOfNuts : ByteArray := prog_1_method_51_code
def yX8_meanOfNuts : MethodName := ⟨RX8, "meanOfNuts", "(II)V"⟩
abbrev cX8_factorial : ByteArray := prog_1_method_52_code
def yX8_factorial : MethodName := ⟨RX8, "factorial", "(I)I"⟩
def RX9 : String := "LidForEachModel"
def TX9 : u_T := fun k => match k with
  | 0 => ("LidForEachModel", "above", "J", false)
  | 1 => ("LidForEachModel", "below", "J", false)
  | 2 => ("LidForEachModel", "now", "[I", true)
  | 3 => ("LidForEachModel", "base", "I", false)
  | 4 => ("LidForEachModel", "isKept", "[Z", true)
  | 5 => ("LidForEachModel", "refused", "[I", true)
  | 6 => ("LidForEachModel", "text", "[B", true)
  | 7 => ("LidForEachModel", "typed", "I", false)
  | 8 => ("LidForEachModel", "at", "I", false)
  | 9 => ("LidForEachModel", "start", "I", false)
  | 10 => ("LidForEachModel", "sort", "I", false)
  | 11 => ("LidForEachModel", "value", "I", false)
  | 12 => ("LidForEachModel", "fault", "I", false)
  | 13 => ("LidForEachModel", "refusedItem", "I", false)
  | 14 => ("LidForEachModel", "given", "[I", true)
  | 15 => ("LidForEachModel", "goes", "[I", true)
  | 16 => ("LidForEachModel", "pairs", "[I", true)
  | 17 => ("LidForEachModel", "mate", "[I", true)
  | 18 => ("LidForEachModel", "isLidded", "[Z", true)
  | 19 => ("LidForEachModel", "isBought", "[Z", true)
  | 20 => ("LidForEachModel", "bought", "[I", true)
  | 21 => ("LidForEachModel", "order", "[I", true)
  | 22 => ("LidForEachModel", "bestOrder", "[I", true)
  | _ => ("LidForEachModel", "often", "[I", true)
def tyX9 : Nat → FieldType := fun k => match k with
  | 0 => .long
  | 1 => .long
  | 2 => .array .int
  | 3 => .int
  | 4 => .array .boolean
  | 5 => .array .int
  | 6 => .array .byte
  | 7 => .int
  | 8 => .int
  | 9 => .int
  | 10 => .int
  | 11 => .int
  | 12 => .int
  | 13 => .int
  | 14 => .array .int
  | 15 => .array .int
  | 16 => .array .int
  | 17 => .array .int
  | 18 => .array .boolean
  | 19 => .array .boolean
  | 20 => .array .int
  | 21 => .array .int
  | 22 => .array .int
  | _ => .array .int
abbrev wsX90 : List Cond := u_ws RX9 TX9 24
theorem nmX9 : ∀ a, a < 24 → ∀ b, b < 24 → a ≠ b → (TX9 a).2.1 ≠ (TX9 b).2.1 := by decide +kernel
theorem tyX9_ok : ∀ k, k < 24 → parseFieldDescriptor (TX9 k).2.2.1 = some (tyX9 k) := by decide +kernel
abbrev cX9_init : ByteArray := prog_11_method_1_code
def yX9_init : MethodName := ⟨RX9, "<init>", "()V"⟩
abbrev cX9_in : ByteArray := prog_11_method_3_code
def yX9_in : MethodName := ⟨RX9, "in", "(III)Z"⟩
abbrev cX9_get : ByteArray := prog_11_method_4_code
def yX9_get : MethodName := ⟨RX9, "get", "(I)I"⟩
abbrev cX9_put1 : ByteArray := prog_11_method_5_code
def yX9_put1 : MethodName := ⟨RX9, "put1", "(II)V"⟩
abbrev cX9_ofBox : ByteArray := prog_11_method_6_code
def yX9_ofBox : MethodName := ⟨RX9, "ofBox", "(II)I"⟩
abbrev cX9_ofLid : ByteArray := prog_11_method_7_code
def yX9_ofLid : MethodName := ⟨RX9, "ofLid", "(II)I"⟩
abbrev cX9_copy : ByteArray := prog_11_method_8_code
def yX9_copy : MethodName := ⟨RX9, "copy", "(II)V"⟩
abbrev cX9_isBox : ByteArray := prog_11_method_9_code
def yX9_isBox : MethodName := ⟨RX9, "isBox", "(I)Z"⟩
abbrev cX9_isLid : ByteArray := prog_11_method_10_code
def yX9_isLid : MethodName := ⟨RX9, "isLid", "(I)Z"⟩
abbrev cX9_told : ByteArray := prog_11_method_11_code
def yX9_told : MethodName := ⟨RX9, "told", "(I)I"⟩
abbrev cX9_bad10 : ByteArray := prog_11_method_12_code
def yX9_bad10 : MethodName := ⟨RX9, "bad10", "()I"⟩
abbrev cX9_addBox : ByteArray := prog_11_method_13_code
def yX9_addBox : MethodName := ⟨RX9, "addBox", "(III)I"⟩
abbrev cX9_addLid : ByteArray := prog_11_method_14_code
def yX9_addLid : MethodName := ⟨RX9, "addLid", "(III)I"⟩
abbrev cX9_addSort : ByteArray := prog_11_method_15_code
def yX9_addSort : MethodName := ⟨RX9, "addSort", "(IIII)I"⟩
abbrev cX9_isPlain : ByteArray := prog_11_method_16_code
def yX9_isPlain : MethodName := ⟨RX9, "isPlain", "(III)Z"⟩
abbrev cX9_fitsAs : ByteArray := prog_11_method_17_code
def yX9_fitsAs : MethodName := ⟨RX9, "fitsAs", "(IIII)Z"⟩
abbrev cX9_doesFit : ByteArray := prog_11_method_18_code
def yX9_doesFit : MethodName := ⟨RX9, "doesFit", "(II)Z"⟩
abbrev cX9_boxOf : ByteArray := prog_11_method_19_code
def yX9_boxOf : MethodName := ⟨RX9, "boxOf", "(I)I"⟩
abbrev cX9_know : ByteArray := prog_11_method_20_code
def yX9_know : MethodName := ⟨RX9, "know", "()V"⟩
abbrev cX9_putOn : ByteArray := prog_11_method_21_code
def yX9_putOn : MethodName := ⟨RX9, "putOn", "(II)I"⟩
abbrev cX9_setGrasp : ByteArray := prog_11_method_22_code
def yX9_setGrasp : MethodName := ⟨RX9, "setGrasp", "(II)I"⟩
abbrev cX9_box : ByteArray := prog_11_method_23_code
def yX9_box : MethodName := ⟨RX9, "box", "(III)I"⟩
abbrev cX9_lid : ByteArray := prog_11_method_24_code
def yX9_lid : MethodName := ⟨RX9, "lid", "(III)I"⟩
abbrev cX9_put : ByteArray := prog_11_method_25_code
def yX9_put : MethodName := ⟨RX9, "put", "(II)I"⟩
abbrev cX9_off : ByteArray := prog_11_method_26_code
def yX9_off : MethodName := ⟨RX9, "off", "(I)I"⟩
abbrev cX9_undo : ByteArray := prog_11_method_27_code
def yX9_undo : MethodName := ⟨RX9, "undo", "()I"⟩
abbrev cX9_on : ByteArray := prog_11_method_28_code
def yX9_on : MethodName := ⟨RX9, "on", "(I)I"⟩
abbrev cX9_grasp : ByteArray := prog_11_method_29_code
def yX9_grasp : MethodName := ⟨RX9, "grasp", "(II)I"⟩
abbrev cX9_sort : ByteArray := prog_11_method_30_code
def yX9_sort : MethodName := ⟨RX9, "sort", "(IIII)I"⟩
abbrev cX9_eye : ByteArray := prog_11_method_31_code
def yX9_eye : MethodName := ⟨RX9, "eye", "(II)I"⟩
abbrev cX9_type : ByteArray := prog_11_method_32_code
def yX9_type : MethodName := ⟨RX9, "type", "(I)I"⟩
abbrev cX9_clear : ByteArray := prog_11_method_33_code
def yX9_clear : MethodName := ⟨RX9, "clear", "()I"⟩
abbrev cX9_here : ByteArray := prog_11_method_34_code
def yX9_here : MethodName := ⟨RX9, "here", "()I"⟩
abbrev cX9_meaning : ByteArray := prog_11_method_35_code
def yX9_meaning : MethodName := ⟨RX9, "meaning", "(I)I"⟩
abbrev cX9_next : ByteArray := prog_11_method_36_code
def yX9_next : MethodName := ⟨RX9, "next", "()V"⟩
abbrev cX9_due : ByteArray := prog_11_method_37_code
def yX9_due : MethodName := ⟨RX9, "due", "(Z)V"⟩
abbrev cX9_doItem : ByteArray := prog_11_method_38_code
def yX9_doItem : MethodName := ⟨RX9, "doItem", "(I)I"⟩
abbrev cX9_read : ByteArray := prog_11_method_39_code
def yX9_read : MethodName := ⟨RX9, "read", "()I"⟩
abbrev cX9_manyOf : ByteArray := prog_11_method_40_code
def yX9_manyOf : MethodName := ⟨RX9, "manyOf", "(I)I"⟩
abbrev cX9_mostOf : ByteArray := prog_11_method_41_code
def yX9_mostOf : MethodName := ⟨RX9, "mostOf", "(II)I"⟩
abbrev cX9_findFits : ByteArray := prog_11_method_42_code
def yX9_findFits : MethodName := ⟨RX9, "findFits", "()V"⟩
abbrev cX9_boxes : ByteArray := prog_11_method_43_code
def yX9_boxes : MethodName := ⟨RX9, "boxes", "()I"⟩
abbrev cX9_lids : ByteArray := prog_11_method_44_code
def yX9_lids : MethodName := ⟨RX9, "lids", "()I"⟩
abbrev cX9_findFirst : ByteArray := prog_11_method_45_code
def yX9_findFirst : MethodName := ⟨RX9, "findFirst", "(II)I"⟩
abbrev cX9_fits : ByteArray := prog_11_method_46_code
def yX9_fits : MethodName := ⟨RX9, "fits", "(I)I"⟩
abbrev cX9_most : ByteArray := prog_11_method_47_code
def yX9_most : MethodName := ⟨RX9, "most", "(I)I"⟩
abbrev cX9_lacking : ByteArray := prog_11_method_48_code
def yX9_lacking : MethodName := ⟨RX9, "lacking", "()I"⟩
abbrev cX9_sumOf : ByteArray := prog_11_method_49_code
def yX9_sumOf : MethodName := ⟨RX9, "sumOf", "(II)I"⟩
abbrev cX9_isCovered : ByteArray := prog_11_method_50_code
def yX9_isCovered : MethodName := ⟨RX9, "isCovered", "(II)Z"⟩
abbrev cX9_soup : ByteArray := prog_11_method_51_code
def yX9_soup : MethodName := ⟨RX9, "soup", "(II)I"⟩
abbrev cX9_muchBy : ByteArray := prog_11_method_52_code
def yX9_muchBy : MethodName := ⟨RX9, "muchBy", "(I)I"⟩
abbrev cX9_much : ByteArray := prog_11_method_53_code
def yX9_much : MethodName := ⟨RX9, "much", "()I"⟩
abbrev cX9_worth : ByteArray := prog_11_method_54_code
def yX9_worth : MethodName := ⟨RX9, "worth", "(I)I"⟩
abbrev cX9_spare : ByteArray := prog_11_method_55_code
def yX9_spare : MethodName := ⟨RX9, "spare", "()I"⟩
abbrev cX9_piles : ByteArray := prog_11_method_56_code
def yX9_piles : MethodName := ⟨RX9, "piles", "(I)I"⟩
abbrev cX9_shelf : ByteArray := prog_11_method_57_code
def yX9_shelf : MethodName := ⟨RX9, "shelf", "(I)I"⟩
abbrev cX9_buyOne : ByteArray := prog_11_method_58_code
def yX9_buyOne : MethodName := ⟨RX9, "buyOne", "(I)V"⟩
abbrev cX9_isEnough : ByteArray := prog_11_method_59_code
def yX9_isEnough : MethodName := ⟨RX9, "isEnough", "(I)Z"⟩
abbrev cX9_priceOf : ByteArray := prog_11_method_60_code
def yX9_priceOf : MethodName := ⟨RX9, "priceOf", "(I)I"⟩
abbrev cX9_manyIn : ByteArray := prog_11_method_61_code
def yX9_manyIn : MethodName := ⟨RX9, "manyIn", "(I)I"⟩
abbrev cX9_buy : ByteArray := prog_11_method_62_code
def yX9_buy : MethodName := ⟨RX9, "buy", "(I)I"⟩
abbrev cX9_firstOrder : ByteArray := prog_11_method_63_code
def yX9_firstOrder : MethodName := ⟨RX9, "firstOrder", "(I)V"⟩
abbrev cX9_nextOrder : ByteArray := prog_11_method_64_code
def yX9_nextOrder : MethodName := ⟨RX9, "nextOrder", "(I)Z"⟩
abbrev cX9_fraction : ByteArray := prog_11_method_65_code
def yX9_fraction : MethodName := ⟨RX9, "fraction", "(JJ)V"⟩
abbrev cX9_meanBy : ByteArray := prog_11_method_66_code
def yX9_meanBy : MethodName := ⟨RX9, "meanBy", "(I)J"⟩
abbrev cX9_tries : ByteArray := prog_11_method_67_code
def yX9_tries : MethodName := ⟨RX9, "tries", "(I)I"⟩
abbrev cX9_nuts : ByteArray := prog_11_method_68_code
def yX9_nuts : MethodName := ⟨RX9, "nuts", "(II)I"⟩
abbrev cX9_lend : ByteArray := prog_11_method_69_code
def yX9_lend : MethodName := ⟨RX9, "lend", "(III)I"⟩
abbrev cX9_whoHas : ByteArray := prog_11_method_70_code
def yX9_whoHas : MethodName := ⟨RX9, "whoHas", "(II)I"⟩
abbrev cX9_has : ByteArray := prog_11_method_71_code
def yX9_has : MethodName := ⟨RX9, "has", "(I)I"⟩
abbrev cX9_wrong : ByteArray := prog_11_method_72_code
def yX9_wrong : MethodName := ⟨RX9, "wrong", "()I"⟩
abbrev cX9_hint : ByteArray := prog_11_method_73_code
def yX9_hint : MethodName := ⟨RX9, "hint", "(III)I"⟩
abbrev cX9_forget : ByteArray := prog_11_method_74_code
def yX9_forget : MethodName := ⟨RX9, "forget", "(I)I"⟩
abbrev cX9_isSo : ByteArray := prog_11_method_75_code
def yX9_isSo : MethodName := ⟨RX9, "isSo", "()Z"⟩
abbrev cX9_findWays : ByteArray := prog_11_method_76_code
def yX9_findWays : MethodName := ⟨RX9, "findWays", "()I"⟩
abbrev cX9_labels : ByteArray := prog_11_method_77_code
def yX9_labels : MethodName := ⟨RX9, "labels", "(II)I"⟩
abbrev cX9_evening : ByteArray := prog_11_method_78_code
def yX9_evening : MethodName := ⟨RX9, "evening", "(II)I"⟩
abbrev cX9_part : ByteArray := prog_11_method_79_code
def yX9_part : MethodName := ⟨RX9, "part", "(I)J"⟩
abbrev cX9_image : ByteArray := prog_11_method_80_code
def yX9_image : MethodName := ⟨RX9, "image", "(I)I"⟩
abbrev cX9_from : ByteArray := prog_11_method_81_code
def yX9_from : MethodName := ⟨RX9, "from", "(I)I"⟩
abbrev cX9_status : ByteArray := prog_11_method_82_code
def yX9_status : MethodName := ⟨RX9, "status", "(I)I"⟩
abbrev cX9_counted : ByteArray := prog_11_method_83_code
def yX9_counted : MethodName := ⟨RX9, "counted", "(I)I"⟩
abbrev cX9_count : ByteArray := prog_11_method_84_code
def yX9_count : MethodName := ⟨RX9, "count", "(I)I"⟩
abbrev cX9_digested : ByteArray := prog_11_method_85_code
def yX9_digested : MethodName := ⟨RX9, "digested", "(JII)J"⟩
abbrev cX9_digest : ByteArray := prog_11_method_86_code
def yX9_digest : MethodName := ⟨RX9, "digest", "()J"⟩
def RJx145de : String := "java/io/Serializable"
def TJx145de : u_T := fun k => match k with
  | _ => ("", "", "", false)
def tyJx145de : Nat → FieldType := fun k => match k with
  | _ => .int
def RJx9f9b0 : String := "java/lang/CharSequence"
def TJx9f9b0 : u_T := fun k => match k with
  | _ => ("", "", "", false)
def tyJx9f9b0 : Nat → FieldType := fun k => match k with
  | _ => .int
def RJxb160c : String := "java/lang/Comparable"
def TJxb160c : u_T := fun k => match k with
  | _ => ("", "", "", false)
def tyJxb160c : Nat → FieldType := fun k => match k with
  | _ => .int
def RJ6 : String := "java/lang/Integer"
def TJ6 : u_T := fun k => match k with
  | _ => ("", "", "", false)
def tyJ6 : Nat → FieldType := fun k => match k with
  | _ => .int
abbrev cJ6_lowestOneBit_0f7a4 : ByteArray := prog_12_method_46_code
def yJ6_lowestOneBit_0f7a4 : MethodName := ⟨RJ6, "lowestOneBit", "(I)I"⟩
abbrev cJ6_bitCount_0f7a4 : ByteArray := prog_12_method_49_code
def yJ6_bitCount_0f7a4 : MethodName := ⟨RJ6, "bitCount", "(I)I"⟩
def RJ9 : String := "java/lang/Math"
def TJ9 : u_T := fun k => match k with
  | _ => ("", "", "", false)
def tyJ9 : Nat → FieldType := fun k => match k with
  | _ => .int
abbrev cJ9_max_7cf53 : ByteArray := prog_13_method_65_code
def yJ9_max_7cf53 : MethodName := ⟨RJ9, "max", "(II)I"⟩
abbrev cJ9_min_7cf53 : ByteArray := prog_13_method_69_code
def yJ9_min_7cf53 : MethodName := ⟨RJ9, "min", "(II)I"⟩
def RJ0 : String := "java/lang/String"
def TJ0 : u_T := fun k => match k with
  | _ => ("", "", "", false)
def tyJ0 : Nat → FieldType := fun k => match k with
  | _ => .int
abbrev cJ0_length_8abf5 : ByteArray := prog_14_method_54_code
def yJ0_length_8abf5 : MethodName := ⟨RJ0, "length", "()I"⟩
abbrev cJ0_charAt_5068e : ByteArray := prog_14_method_56_code
def yJ0_charAt_5068e : MethodName := ⟨RJ0, "charAt", "(I)C"⟩
abbrev cJ0_coder_7d493 : ByteArray := prog_14_method_152_code
def yJ0_coder_7d493 : MethodName := ⟨RJ0, "coder", "()B"⟩
abbrev cJ0_isLatin1_aae02 : ByteArray := prog_14_method_154_code
def yJ0_isLatin1_aae02 : MethodName := ⟨RJ0, "isLatin1", "()Z"⟩
abbrev cJ0_checkIndex_df160 : ByteArray := prog_14_method_155_code
def yJ0_checkIndex_df160 : MethodName := ⟨RJ0, "checkIndex", "(II)V"⟩
def RJ1 : String := "java/lang/StringLatin1"
def TJ1 : u_T := fun k => match k with
  | _ => ("", "", "", false)
def tyJ1 : Nat → FieldType := fun k => match k with
  | _ => .int
abbrev cJ1_charAt_3b067 : ByteArray := prog_15_method_2_code
def yJ1_charAt_3b067 : MethodName := ⟨RJ1, "charAt", "([BI)C"⟩
def RJ2 : String := "java/lang/StringUTF16"
def TJ2 : u_T := fun k => match k with
  | _ => ("", "", "", false)
def tyJ2 : Nat → FieldType := fun k => match k with
  | _ => .int
abbrev cJ2_getChar_3b067 : ByteArray := prog_16_method_5_code
def yJ2_getChar_3b067 : MethodName := ⟨RJ2, "getChar", "([BI)C"⟩
abbrev cJ2_length_9d52b : ByteArray := prog_16_method_6_code
def yJ2_length_9d52b : MethodName := ⟨RJ2, "length", "([B)I"⟩
abbrev cJ2_charAt_3b067 : ByteArray := prog_16_method_83_code
def yJ2_charAt_3b067 : MethodName := ⟨RJ2, "charAt", "([BI)C"⟩
abbrev cJ2_checkIndex_2214a : ByteArray := prog_16_method_91_code
def yJ2_checkIndex_2214a : MethodName := ⟨RJ2, "checkIndex", "(I[B)V"⟩
def RJ10 : String := "java/lang/System"
def TJ10 : u_T := fun k => match k with
  | _ => ("", "", "", false)
def tyJ10 : Nat → FieldType := fun k => match k with
  | _ => .int
def RJxfd54e : String := "java/lang/constant/Constable"
def TJxfd54e : u_T := fun k => match k with
  | _ => ("", "", "", false)
def tyJxfd54e : Nat → FieldType := fun k => match k with
  | _ => .int
def RJx3cf43 : String := "java/lang/constant/ConstantDesc"
def TJx3cf43 : u_T := fun k => match k with
  | _ => ("", "", "", false)
def tyJx3cf43 : Nat → FieldType := fun k => match k with
  | _ => .int
def RJ7 : String := "java/util/Arrays"
def TJ7 : u_T := fun k => match k with
  | _ => ("", "", "", false)
def tyJ7 : Nat → FieldType := fun k => match k with
  | _ => .int
abbrev cJ7_fill_53178 : ByteArray := prog_18_method_103_code
def yJ7_fill_53178 : MethodName := ⟨RJ7, "fill", "([II)V"⟩
def RJ3 : String := "jdk/internal/util/Preconditions"
def TJ3 : u_T := fun k => match k with
  | _ => ("", "", "", false)
def tyJ3 : Nat → FieldType := fun k => match k with
  | _ => .int
abbrev cJ3_checkIndex_8e157 : ByteArray := prog_19_method_11_code
def yJ3_checkIndex_8e157 : MethodName := ⟨RJ3, "checkIndex", "(IILjava/util/function/BiFunction;)I"⟩
def RL : String := "LidForEachLaw"
abbrev cL_law : ByteArray := code
abbrev vwCl : List vw_C := [(RX0, TX0, 3), (RX1, TX1, 6), (RX2, TX2, 9), (RX3, TX3, 2), (RX4, TX4, 5), (RX5, TX5, 2), (RX6, TX6, 4), (RX7, TX7, 8), (RX8, TX8, 14), (RX9, TX9, 24)]
end
section
/-! ===== THE PURE MACHINE: a world is a count of cells and what each holds, references are the cells' numbers; the judgement Zw of a frame and Zm of a method speak of pure worlds alone ===== -/
/-- a cell: a row (0 int, 1 byte, 2 boolean; its length; what it holds), or an object (the number of its class, its fields) -/
abbrev ZE : Type := (Nat × Nat × (Nat → Int32)) ⊕ (Nat × List Value)
abbrev ZW : Type := Nat × (Nat → ZE)
/-- a method: its name, its code, its locals, what it returns -/
abbrev ZM : Type := MethodName × ByteArray × Nat × Option FieldType
/-- where the world lies: its first address, the addresses of constants, the classes' numbers, the row classes -/
abbrev ZG : Type := Nat × (Nat → Nat) × va_G × (Nat → ClassId)
def za (g : ZG) (i : Nat) : Nat := if i < 1000000 then g.1 + i else g.2.1 (i - 1000000)
def zv (g : ZG) (v : Value) : Value := match v with
  | .ref i => .ref (za g i)
  | .int x => .int x
  | .long x => .long x
  | .float x => .float x
  | .double x => .double x
  | .null => .null
  | .retAddr x => .retAddr x
def ze (g : ZG) (e : ZE) : va_E := match e with
  | .inl x => .inl (g.2.2.2 x.1, x.2.1, .inl x.2.2)
  | .inr o => .inr (o.1, o.2.map (zv g))
def zl (g : ZG) (w : ZW) : va_W := (List.range w.1).map (fun i => (g.1 + i, ze g (w.2 i)))
abbrev zA (g : ZG) : Nat → Prop := fun q => g.1 ≤ q
def zput (w : ZW) (i : Nat) (e : ZE) : ZW := (w.1, va_up w.2 i e)
def zadd (w : ZW) (e : ZE) : ZW := (w.1 + 1, va_up w.2 w.1 e)
def zat (w : ZW) (i : Nat) (e : ZE) : Prop := i < w.1 ∧ w.2 i = e
theorem za_lt {g : ZG} {i : Nat} (h : i < 1000000) : za g i = g.1 + i := if_pos h
theorem zv_cat (g : ZG) (v : Value) : (zv g v).category = v.category := by cases v <;> rfl
theorem zl_at {g : ZG} {w : ZW} {i : Nat} (h : i < w.1) : (zl g w)[i]? = some (g.1 + i, ze g (w.2 i)) := by
  simp [zl, h]
theorem zl_get {g : ZG} {w : ZW} {i : Nat} {q : Nat × va_E} (h : (zl g w)[i]? = some q) : i < w.1 ∧ q = (g.1 + i, ze g (w.2 i)) := by
  have hi : i < w.1 := by
    have := (List.getElem?_eq_some_iff.mp h).1
    simpa [zl] using this
  rw [zl_at hi] at h
  exact ⟨hi, (Option.some.inj h).symm⟩
theorem zl_D (g : ZG) (w : ZW) : va_D (zA g) (zl g w) := by
  refine ⟨fun i j p q hi hj e => ?_, fun k q hk => ?_⟩
  · obtain ⟨-, rfl⟩ := zl_get hi
    obtain ⟨-, rfl⟩ := zl_get hj
    dsimp only at e
    omega
  · obtain ⟨-, rfl⟩ := zl_get hk
    show g.1 ≤ g.1 + k
    omega
theorem zl_set {g : ZG} {w : ZW} {i : Nat} (e : ZE) (h : i < w.1) : (zl g w).set i (g.1 + i, ze g e) = zl g (zput w i e) := by
  apply List.ext_getElem?
  intro j
  by_cases hj : j < w.1
  · rw [zl_at (w := zput w i e) (show j < (zput w i e).1 from hj)]
    by_cases hij : i = j
    · subst hij
      rw [List.getElem?_set_self (by simpa [zl] using hj)]
      simp [zput, va_up]
    · rw [List.getElem?_set_ne hij, zl_at hj]
      simp [zput, va_up, Ne.symm hij]
  · rw [List.getElem?_eq_none (by simp [zl]; omega), List.getElem?_eq_none (by simp [zl, zput]; omega)]
theorem zl_push (g : ZG) (w : ZW) (e : ZE) : zl g w ++ [(g.1 + w.1, ze g e)] = zl g (zadd w e) := by
  simp only [zl, zadd, List.range_succ, List.map_append, List.map_cons, List.map_nil]
  congr 1
  · apply List.map_congr_left
    intro i hi
    have : i < w.1 := List.mem_range.mp hi
    simp [va_up, Nat.ne_of_lt this]
  · simp [va_up]
theorem zat.put {w : ZW} {i j : Nat} {e e' : ZE} (h : zat w j e) (hij : j ≠ i) : zat (zput w i e') j e := ⟨h.1, by show va_up w.2 i e' j = e; simp [va_up, hij]; exact h.2⟩
theorem zat.self {w : ZW} {i : Nat} {e e' : ZE} (h : zat w i e) : zat (zput w i e') i e' := ⟨h.1, by show va_up w.2 i e' i = e'; simp [va_up]⟩
/-- the heap holds the world -/
def zR (g : ZG) (w : ZW) (H : Heap) : Prop := H.size = g.1 + w.1 ∧ w.1 ≤ 1000000 ∧ va_P g.2.2.1 vwCl (zl g w) H
abbrev ztys (g : ZG) : List (ClassId × FieldType) := [(g.2.2.2 0, .int), (g.2.2.2 1, .byte), (g.2.2.2 2, .boolean)]
/-- the texts: by entry of LidForEach$Text -/
abbrev ztx : List (Nat × String) := [(77, "box"), (79, "lid"), (81, "on"), (83, "grasp"), (85, "sort")]
abbrev zlen : List Nat := [3, 3, 2, 5, 4]
abbrev zbyt : List (List Int32) := [[98, 111, 120], [108, 105, 100], [111, 110], [103, 114, 97, 115, 112], [115, 111, 114, 116]]
/-- the words that every method is given -/
def zT : List Cond := lw_tbl.filter goodWord
/-- the links among nest mates, which go on as the classes do -/
def zNest (w : Cond) : Bool := match w with
  | .fieldLinkNest .. => true
  | .methodLinkNest .. => true
  | _ => false
def zTN : List Cond := lw_tbl.filter zNest
theorem zTN_of {w : Cond} (i : Nat) (h : lw_tbl[i]? = some w) (hg : zNest w = true) : w ∈ zTN := List.mem_filter.mpr ⟨List.mem_of_getElem? h, hg⟩
theorem zNest_warm {w : Cond} (h : zNest w = true) {s U : State} (hW : s.WarmedH U.vm) (hz : va_Nw w s) : va_Nw w U := by
  cases w with
  | fieldLinkNest => exact va_Nw.warmF hW hz
  | methodLinkNest => exact va_Nw.warmM hW hz
  | _ => cases h
theorem zNest_tab {w : Cond} (h : zNest w = true) : w.onTables = true := by
  cases w with
  | fieldLinkNest => rfl
  | methodLinkNest => rfl
  | _ => cases h
def zK (g : ZG) (U : State) : Prop := va_K g.2.2.1 vwCl (ztys g) U ∧ (∀ (k : Nat) (t : Nat × String), ztx[k]? = some t → vk_R "LidForEach$Text" t.1 t.2 (g.2.1 k) U) ∧ ∀ w ∈ zTN, va_Nw w U
def zS (g : ZG) (U : State) (H : Heap) : Prop := vk_S 5 zlen zbyt g.2.1 (fun k => g.2.1 (100 + k)) (zA g) U H ∧ va_Z "java/lang/String" "COMPACT_STRINGS" "Z" (.int 1) (zA g) U H ∧ (va_Z "jdk/internal/util/Preconditions" "SIOOBE_FORMATTER" "Ljava/util/function/BiFunction;" .null (zA g) U H ∨ va_Z "jdk/internal/util/Preconditions" "SIOOBE_FORMATTER" "Ljava/util/function/BiFunction;" (.ref (g.2.1 201)) (zA g) U H)
def zEnv (g : ZG) (U : State) : Prop := zK g U ∧ zS g U U.heap ∧ g.1 ≤ U.heap.size
theorem zK.warm {g : ZG} {s U : State} (hW : s.WarmedH U.vm) (h : zK g s) : zK g U := ⟨va_K.moved hW.alike h.1, fun k t hk => vk_R.warm hW (h.2.1 k t hk), fun w hw => zNest_warm (List.mem_filter.mp hw).2 hW (h.2.2 w hw)⟩
theorem zS.go {g : ZG} {s U : State} {H H1 : Heap} (hvm : s.vm.Alike U.vm) (hq : ∀ a : Nat, a < H.size → ¬ zA g a → H1[a]? = H[a]?) (h : zS g s H) : zS g U H1 := by
  obtain ⟨h1, h2, h3⟩ := h
  refine ⟨vk_S.moved hvm (h1.kept hq), va_Z.moved hvm (h2.kept hq), ?_⟩
  rcases h3 with h | h
  · exact Or.inl (va_Z.moved hvm (h.kept hq))
  · exact Or.inr (va_Z.moved hvm (h.kept hq))
theorem zEnv.go {g : ZG} {s U : State} {H : Heap} {locs : List Loc} (hU : U.heap = H) (hW : s.WarmedH U.vm) (hS : va_S (zA g) s.heap H locs) (h : zEnv g s) : zEnv g U := by
  subst hU
  exact ⟨h.1.warm hW, h.2.1.go hW.alike hS.2.1, Nat.le_trans h.2.2 hS.1⟩
def zPc (g : ZG) (as : List Value) (w : ZW) : Array Value → State → Prop := fun a U => a = (as.map (zv g)).toArray ∧ zR g w U.heap ∧ zEnv g U
def zQc (g : ZG) (Q : Option Value → ZW → Prop) : Array Value → State → Outcome → State → Prop := fun _ st o t => ∃ (v : Option Value) (w : ZW), o = .returned (v.map (zv g)) ∧ Q v w ∧ zR g w t.heap ∧ va_F (zA g) st t
theorem zPc_blind (g : ZG) (as : List Value) (w : ZW) : FrameBlind (zPc g as w) := by
  intro a U fr mk h
  obtain ⟨h1, h2, h3, h4, h5⟩ := h
  exact ⟨h1, h2, ⟨va_K.moved (u := U) (U := U.calling fr mk a) (Vm.Alike.refl U.vm) h3.1, fun k t hk => vk_R.same (u := U) rfl (h3.2.1 k t hk), fun w hw => va_Nw.same (u := U) (zNest_tab (List.mem_filter.mp hw).2) rfl (h3.2.2 w hw)⟩, zS.go (s := U) (U := U.calling fr mk a) (Vm.Alike.refl U.vm) (fun _ _ _ => rfl) h4, h5⟩
theorem zT_of {w : Cond} (i : Nat) (h : lw_tbl[i]? = some w) (hg : goodWord w = true) : w ∈ zT := List.mem_filter.mpr ⟨List.mem_of_getElem? h, hg⟩
theorem zT_good {w : Cond} (h : w ∈ zT) : GoodIn zT (w :: zT) := by
  intro q hq
  rcases List.mem_cons.mp hq with rfl | hq
  · exact ⟨h, good_of_word (List.mem_filter.mp h).2⟩
  · exact ⟨hq, good_of_word (List.mem_filter.mp hq).2⟩
def zRet (ins : Instr) (v : Option Value) (rt : Option FieldType) : Prop :=
  (ins = .ireturn ∧ ∃ (x : Int32) (ty : FieldType), v = some (.int x) ∧ rt = some ty ∧ narrow ty (.int x) = .int x) ∨ (ins = .lreturn ∧ ∃ x : Int64, v = some (.long x) ∧ rt = some .long) ∨ (ins = .areturn ∧ ∃ (a : Nat) (n : String), v = some (.ref a) ∧ rt = some (.object n)) ∨ (ins = .return_ ∧ v = none ∧ rt = none)
def zCx (d : Nat) (mt : ZM) (mc ms : Nat) (Q : Option Value → ZW → Prop) (g : ZG) (p : Program) (l : Launch) (e : Env) (R : Room) (s : State) (m : MethodId) (args : Array Value) (below : List Frame) (meth : Method) (c : Code) (Qm : State → Prop) : Prop :=
  p.tables.exec = Jvm.exec ∧ c.code = mt.2.1 ∧ c.maxLocals = mt.2.2.1 ∧ s.vm.findClass mt.1.cls = some m.cls ∧ (∀ w ∈ zT, w.before args s = true) ∧ meth.name = mt.1.name ∧ (d ≤ R.frames ∧ 64 * d ≤ R.locals ∧ mc ≤ R.cells ∧ ms ≤ R.slots) ∧ zEnv g s ∧
  ∀ (v : Option Value) (w : ZW) (H : Heap) (locs : List Loc) (pc : Nat) (ls : Array Slot) (ins : Instr), Q v w → zRet ins v mt.2.2.2 → decode mt.2.1 pc = .ok (ins, 1) → zR g w H → va_S (zA g) s.heap H locs → W p l e R s m args below meth c H locs mc ms Qm (F0 m pc ls ((v.map (zv g)).toList))
/-- the locals, by place; none: not known -/
def zL (g : ZG) (ls : List (Option Value)) (la : Array Slot) : Prop := la.size = ls.length ∧ lv_wf la ∧ ∀ (i : Nat) (v : Value), ls[i]? = some (some v) → la[i]? = some (.val (zv g v))
abbrev ZN : Type := Nat × Nat × Nat × Nat
/-- the frame of mt at pc comes to a return with Q; cn: cells and slots made so far, and in all -/
def Zw (d : Nat) (mt : ZM) (cn : ZN) (pc : Nat) (ls : List (Option Value)) (st : List Value) (w : ZW) (Q : Option Value → ZW → Prop) : Prop :=
  ∀ (g : ZG) (p : Program) (l : Launch) (e : Env) (R : Room) (s : State) (m : MethodId) (args : Array Value) (below : List Frame) (meth : Method) (c : Code) (Qm : State → Prop), zCx d mt cn.2.2.1 cn.2.2.2 Q g p l e R s m args below meth c Qm →
  ∀ (H : Heap) (locs : List Loc) (la : Array Slot), zR g w H → va_S (zA g) s.heap H locs → zL g ls la → W p l e R s m args below meth c H locs cn.1 cn.2.1 Qm (F0 m pc la (st.map (zv g)))
abbrev zroom (d mc ms : Nat) : Room := { frames := d, cells := mc, slots := ms, locals := 64 * d }
/-- the method mt, called with as in the world w, returns with Q; mc, ms: the cells and slots it makes -/
def Zm (d : Nat) (mt : ZM) (mc ms : Nat) (as : List Value) (w : ZW) (Q : Option Value → ZW → Prop) : Prop :=
  ∀ (l : Launch) (g : ZG), Met l mt.1 (Cond.code mt.1 mt.2.1 mt.2.2.1 mt.2.2.2 :: zT) (zroom d mc ms) (zPc g as w) (zQc g Q) mc ms (zA g)
end
section
/-! ===== THE RULES of the judgement, one an instruction ===== -/
section ZRULES
variable {d : Nat} {mt : ZM} {cn : ZN} {pc : Nat} {ls : List (Option Value)} {st : List Value} {w : ZW} {Q : Option Value → ZW → Prop}

theorem zw_iadd {x y : Int32} (hd : decode mt.2.1 pc = .ok (.iadd, 1)) (k : Zw d mt cn (pc + 1) ls (.int (x + y) :: st) w Q) : Zw d mt cn pc ls (.int y :: .int x :: st) w Q := by
  intro g p l e R s m args below meth c Qm C H locs la hR hS hL
  exact lv_iadd C.1 C.2.1 hd (k g p l e R s m args below meth c Qm C H locs la hR hS hL)

theorem zw_isub {x y : Int32} (hd : decode mt.2.1 pc = .ok (.isub, 1)) (k : Zw d mt cn (pc + 1) ls (.int (x - y) :: st) w Q) : Zw d mt cn pc ls (.int y :: .int x :: st) w Q := by
  intro g p l e R s m args below meth c Qm C H locs la hR hS hL
  exact lv_isub C.1 C.2.1 hd (k g p l e R s m args below meth c Qm C H locs la hR hS hL)

theorem zw_imul {x y : Int32} (hd : decode mt.2.1 pc = .ok (.imul, 1)) (k : Zw d mt cn (pc + 1) ls (.int (x * y) :: st) w Q) : Zw d mt cn pc ls (.int y :: .int x :: st) w Q := by
  intro g p l e R s m args below meth c Qm C H locs la hR hS hL
  exact lv_imul C.1 C.2.1 hd (k g p l e R s m args below meth c Qm C H locs la hR hS hL)

theorem zw_iand {x y : Int32} (hd : decode mt.2.1 pc = .ok (.iand, 1)) (k : Zw d mt cn (pc + 1) ls (.int (x &&& y) :: st) w Q) : Zw d mt cn pc ls (.int y :: .int x :: st) w Q := by
  intro g p l e R s m args below meth c Qm C H locs la hR hS hL
  exact lv_iand C.1 C.2.1 hd (k g p l e R s m args below meth c Qm C H locs la hR hS hL)

theorem zw_ior {x y : Int32} (hd : decode mt.2.1 pc = .ok (.ior, 1)) (k : Zw d mt cn (pc + 1) ls (.int (x ||| y) :: st) w Q) : Zw d mt cn pc ls (.int y :: .int x :: st) w Q := by
  intro g p l e R s m args below meth c Qm C H locs la hR hS hL
  exact lv_ior C.1 C.2.1 hd (k g p l e R s m args below meth c Qm C H locs la hR hS hL)

theorem zw_ixor {x y : Int32} (hd : decode mt.2.1 pc = .ok (.ixor, 1)) (k : Zw d mt cn (pc + 1) ls (.int (x ^^^ y) :: st) w Q) : Zw d mt cn pc ls (.int y :: .int x :: st) w Q := by
  intro g p l e R s m args below meth c Qm C H locs la hR hS hL
  exact lv_ixor C.1 C.2.1 hd (k g p l e R s m args below meth c Qm C H locs la hR hS hL)

theorem zw_idiv {x y : Int32} (hd : decode mt.2.1 pc = .ok (.idiv, 1)) (hne : ¬ y = 0) (k : Zw d mt cn (pc + 1) ls (.int (x / y) :: st) w Q) : Zw d mt cn pc ls (.int y :: .int x :: st) w Q := by
  intro g p l e R s m args below meth c Qm C H locs la hR hS hL
  exact lv_idiv C.1 C.2.1 hd hne (k g p l e R s m args below meth c Qm C H locs la hR hS hL)

theorem zw_irem {x y : Int32} (hd : decode mt.2.1 pc = .ok (.irem, 1)) (hne : ¬ y = 0) (k : Zw d mt cn (pc + 1) ls (.int (x - x / y * y) :: st) w Q) : Zw d mt cn pc ls (.int y :: .int x :: st) w Q := by
  intro g p l e R s m args below meth c Qm C H locs la hR hS hL
  exact lv_irem C.1 C.2.1 hd hne (k g p l e R s m args below meth c Qm C H locs la hR hS hL)

theorem zw_ineg {x : Int32} (hd : decode mt.2.1 pc = .ok (.ineg, 1)) (k : Zw d mt cn (pc + 1) ls (.int (-x) :: st) w Q) : Zw d mt cn pc ls (.int x :: st) w Q := by
  intro g p l e R s m args below meth c Qm C H locs la hR hS hL
  exact lv_ineg C.1 C.2.1 hd (k g p l e R s m args below meth c Qm C H locs la hR hS hL)

theorem zw_ishl {x y : Int32} (hd : decode mt.2.1 pc = .ok (.ishl, 1)) (k : Zw d mt cn (pc + 1) ls (.int (x <<< (y &&& 31)) :: st) w Q) : Zw d mt cn pc ls (.int y :: .int x :: st) w Q := by
  intro g p l e R s m args below meth c Qm C H locs la hR hS hL
  exact lv_ishl C.1 C.2.1 hd (k g p l e R s m args below meth c Qm C H locs la hR hS hL)

theorem zw_ishr {x y : Int32} (hd : decode mt.2.1 pc = .ok (.ishr, 1)) (k : Zw d mt cn (pc + 1) ls (.int (x >>> (y &&& 31)) :: st) w Q) : Zw d mt cn pc ls (.int y :: .int x :: st) w Q := by
  intro g p l e R s m args below meth c Qm C H locs la hR hS hL
  exact lv_ishr C.1 C.2.1 hd (k g p l e R s m args below meth c Qm C H locs la hR hS hL)

theorem zw_iushr {x y : Int32} (hd : decode mt.2.1 pc = .ok (.iushr, 1)) (k : Zw d mt cn (pc + 1) ls (.int ((x.toUInt32 >>> (y.toUInt32 &&& Int32.toUInt32 31)).toInt32) :: st) w Q) : Zw d mt cn pc ls (.int y :: .int x :: st) w Q := by
  intro g p l e R s m args below meth c Qm C H locs la hR hS hL
  exact lv_iushr C.1 C.2.1 hd rfl (k g p l e R s m args below meth c Qm C H locs la hR hS hL)

theorem zw_ladd {x y : Int64} (hd : decode mt.2.1 pc = .ok (.ladd, 1)) (k : Zw d mt cn (pc + 1) ls (.long (x + y) :: st) w Q) : Zw d mt cn pc ls (.long y :: .long x :: st) w Q := by
  intro g p l e R s m args below meth c Qm C H locs la hR hS hL
  exact lv_ladd C.1 C.2.1 hd (k g p l e R s m args below meth c Qm C H locs la hR hS hL)

theorem zw_lsub {x y : Int64} (hd : decode mt.2.1 pc = .ok (.lsub, 1)) (k : Zw d mt cn (pc + 1) ls (.long (x - y) :: st) w Q) : Zw d mt cn pc ls (.long y :: .long x :: st) w Q := by
  intro g p l e R s m args below meth c Qm C H locs la hR hS hL
  exact lv_lsub C.1 C.2.1 hd (k g p l e R s m args below meth c Qm C H locs la hR hS hL)

theorem zw_lmul {x y : Int64} (hd : decode mt.2.1 pc = .ok (.lmul, 1)) (k : Zw d mt cn (pc + 1) ls (.long (x * y) :: st) w Q) : Zw d mt cn pc ls (.long y :: .long x :: st) w Q := by
  intro g p l e R s m args below meth c Qm C H locs la hR hS hL
  exact lv_lmul C.1 C.2.1 hd (k g p l e R s m args below meth c Qm C H locs la hR hS hL)

theorem zw_ldiv {x y : Int64} (hd : decode mt.2.1 pc = .ok (.ldiv, 1)) (hne : ¬ y = 0) (k : Zw d mt cn (pc + 1) ls (.long (x / y) :: st) w Q) : Zw d mt cn pc ls (.long y :: .long x :: st) w Q := by
  intro g p l e R s m args below meth c Qm C H locs la hR hS hL
  exact lv_ldiv C.1 C.2.1 hd hne (k g p l e R s m args below meth c Qm C H locs la hR hS hL)

theorem zw_lrem {x y : Int64} (hd : decode mt.2.1 pc = .ok (.lrem, 1)) (hne : ¬ y = 0) (k : Zw d mt cn (pc + 1) ls (.long (x - x / y * y) :: st) w Q) : Zw d mt cn pc ls (.long y :: .long x :: st) w Q := by
  intro g p l e R s m args below meth c Qm C H locs la hR hS hL
  exact lv_lrem C.1 C.2.1 hd hne (k g p l e R s m args below meth c Qm C H locs la hR hS hL)

theorem zw_lcmp {x y : Int64} (hd : decode mt.2.1 pc = .ok (.lcmp, 1)) (k : Zw d mt cn (pc + 1) ls (.int (lg_cmp x y) :: st) w Q) : Zw d mt cn pc ls (.long y :: .long x :: st) w Q := by
  intro g p l e R s m args below meth c Qm C H locs la hR hS hL
  exact W.lcmp C.1 C.2.1 hd (k g p l e R s m args below meth c Qm C H locs la hR hS hL)

theorem zw_i2l {x : Int32} (hd : decode mt.2.1 pc = .ok (.i2l, 1)) (k : Zw d mt cn (pc + 1) ls (.long x.toInt64 :: st) w Q) : Zw d mt cn pc ls (.int x :: st) w Q := by
  intro g p l e R s m args below meth c Qm C H locs la hR hS hL
  exact lv_i2l C.1 C.2.1 hd rfl (k g p l e R s m args below meth c Qm C H locs la hR hS hL)

theorem zw_l2i {x : Int64} (hd : decode mt.2.1 pc = .ok (.l2i, 1)) (k : Zw d mt cn (pc + 1) ls (.int x.toInt32 :: st) w Q) : Zw d mt cn pc ls (.long x :: st) w Q := by
  intro g p l e R s m args below meth c Qm C H locs la hR hS hL
  exact lv_l2i C.1 C.2.1 hd rfl (k g p l e R s m args below meth c Qm C H locs la hR hS hL)

theorem zw_i2b {x : Int32} (hd : decode mt.2.1 pc = .ok (.i2b, 1)) (k : Zw d mt cn (pc + 1) ls (.int x.toInt8.toInt32 :: st) w Q) : Zw d mt cn pc ls (.int x :: st) w Q := by
  intro g p l e R s m args below meth c Qm C H locs la hR hS hL
  exact lv_i2b C.1 C.2.1 hd rfl (k g p l e R s m args below meth c Qm C H locs la hR hS hL)

theorem zw_i2c {x : Int32} (hd : decode mt.2.1 pc = .ok (.i2c, 1)) (k : Zw d mt cn (pc + 1) ls (.int (x.toUInt32 % 65536).toInt32 :: st) w Q) : Zw d mt cn pc ls (.int x :: st) w Q := by
  intro g p l e R s m args below meth c Qm C H locs la hR hS hL
  exact lv_i2c C.1 C.2.1 hd rfl (k g p l e R s m args below meth c Qm C H locs la hR hS hL)

theorem zw_iconst {n : Int} (hd : decode mt.2.1 pc = .ok (.iconst n, 1)) (v : Int32) (hv : Int32.ofInt n = v) (k : Zw d mt cn (pc + 1) ls (.int v :: st) w Q) : Zw d mt cn pc ls (st) w Q := by
  intro g p l e R s m args below meth c Qm C H locs la hR hS hL
  exact lv_iconst C.1 C.2.1 hd hv (k g p l e R s m args below meth c Qm C H locs la hR hS hL)

theorem zw_bipush {n : Int} (hd : decode mt.2.1 pc = .ok (.bipush n, 2)) (v : Int32) (hv : (Int8.ofInt n).toInt32 = v) (k : Zw d mt cn (pc + 2) ls (.int v :: st) w Q) : Zw d mt cn pc ls (st) w Q := by
  intro g p l e R s m args below meth c Qm C H locs la hR hS hL
  exact lv_bipush C.1 C.2.1 hd hv (k g p l e R s m args below meth c Qm C H locs la hR hS hL)

theorem zw_sipush {n : Int} (hd : decode mt.2.1 pc = .ok (.sipush n, 3)) (v : Int32) (hv : (Int16.ofInt n).toInt32 = v) (k : Zw d mt cn (pc + 3) ls (.int v :: st) w Q) : Zw d mt cn pc ls (st) w Q := by
  intro g p l e R s m args below meth c Qm C H locs la hR hS hL
  exact lv_sipush C.1 C.2.1 hd hv (k g p l e R s m args below meth c Qm C H locs la hR hS hL)

theorem zw_lconst {n : Fin 2} (hd : decode mt.2.1 pc = .ok (.lconst n, 1)) (v : Int64) (hv : Int64.ofNat (n : Nat) = v) (k : Zw d mt cn (pc + 1) ls (.long v :: st) w Q) : Zw d mt cn pc ls (st) w Q := by
  intro g p l e R s m args below meth c Qm C H locs la hR hS hL
  exact lv_lconst C.1 C.2.1 hd hv (k g p l e R s m args below meth c Qm C H locs la hR hS hL)

theorem zw_ldc {i : Nat} {v : Int32} (hd : decode mt.2.1 pc = .ok (.ldc i, 2)) (hw : Cond.constant mt.1.cls i v ∈ zT) (k : Zw d mt cn (pc + 2) ls (.int v :: st) w Q) : Zw d mt cn pc ls (st) w Q := by
  intro g p l e R s m args below meth c Qm C H locs la hR hS hL
  exact lv_ldc C.1 C.2.1 C.2.2.2.1 (C.2.2.2.2.1 _ hw) hd (k g p l e R s m args below meth c Qm C H locs la hR hS hL)

theorem zw_ldcw {i : Nat} {v : Int32} (hd : decode mt.2.1 pc = .ok (.ldc_w i, 3)) (hw : Cond.constant mt.1.cls i v ∈ zT) (k : Zw d mt cn (pc + 3) ls (.int v :: st) w Q) : Zw d mt cn pc ls (st) w Q := by
  intro g p l e R s m args below meth c Qm C H locs la hR hS hL
  exact lv_ldcw C.1 C.2.1 C.2.2.2.1 (C.2.2.2.2.1 _ hw) hd (k g p l e R s m args below meth c Qm C H locs la hR hS hL)

theorem zw_ldc2 {i : Nat} {v : Int64} (hd : decode mt.2.1 pc = .ok (.ldc2_w i, 3)) (hw : Cond.constantLong mt.1.cls i v ∈ zT) (k : Zw d mt cn (pc + 3) ls (.long v :: st) w Q) : Zw d mt cn pc ls (st) w Q := by
  intro g p l e R s m args below meth c Qm C H locs la hR hS hL
  exact lv_ldc2 C.1 C.2.1 C.2.2.2.1 (C.2.2.2.2.1 _ hw) hd (k g p l e R s m args below meth c Qm C H locs la hR hS hL)

theorem zw_dup {v : Value} (hd : decode mt.2.1 pc = .ok (.dup, 1)) (hc : v.category = 1) (k : Zw d mt cn (pc + 1) ls (v :: v :: st) w Q) : Zw d mt cn pc ls (v :: st) w Q := by
  intro g p l e R s m args below meth c Qm C H locs la hR hS hL
  exact lv_dup C.1 C.2.1 hd (by rw [zv_cat]; exact hc) (k g p l e R s m args below meth c Qm C H locs la hR hS hL)

theorem zw_pop {v : Value} (hd : decode mt.2.1 pc = .ok (.pop, 1)) (hc : v.category = 1) (k : Zw d mt cn (pc + 1) ls (st) w Q) : Zw d mt cn pc ls (v :: st) w Q := by
  intro g p l e R s m args below meth c Qm C H locs la hR hS hL
  exact lv_pop C.1 C.2.1 hd (by rw [zv_cat]; exact hc) (k g p l e R s m args below meth c Qm C H locs la hR hS hL)

theorem zw_dup_x1 {u v : Value} (hd : decode mt.2.1 pc = .ok (.dup_x1, 1)) (hu : u.category = 1) (hc : v.category = 1) (k : Zw d mt cn (pc + 1) ls (u :: v :: u :: st) w Q) : Zw d mt cn pc ls (u :: v :: st) w Q := by
  intro g p l e R s m args below meth c Qm C H locs la hR hS hL
  exact lv_dup_x1 C.1 C.2.1 hd (by rw [zv_cat]; exact hu) (by rw [zv_cat]; exact hc) (k g p l e R s m args below meth c Qm C H locs la hR hS hL)

theorem zw_dup2 {u v : Value} (hd : decode mt.2.1 pc = .ok (.dup2, 1)) (hu : u.category = 1) (hc : v.category = 1) (k : Zw d mt cn (pc + 1) ls (u :: v :: u :: v :: st) w Q) : Zw d mt cn pc ls (u :: v :: st) w Q := by
  intro g p l e R s m args below meth c Qm C H locs la hR hS hL
  exact lv_dup2_11 C.1 C.2.1 hd (by rw [zv_cat]; exact hu) (by rw [zv_cat]; exact hc) (k g p l e R s m args below meth c Qm C H locs la hR hS hL)

theorem zw_iload_n {n : Fin 4} {x : Int32} (hd : decode mt.2.1 pc = .ok (.iload_n n, 1)) (hl : ls[(n : Nat)]? = some (some (.int x))) (k : Zw d mt cn (pc + 1) ls (.int x :: st) w Q) : Zw d mt cn pc ls (st) w Q := by
  intro g p l e R s m args below meth c Qm C H locs la hR hS hL
  exact lv_iload_n C.1 C.2.1 hd rfl (hL.2.2 _ _ hl) (k g p l e R s m args below meth c Qm C H locs la hR hS hL)

theorem zw_iload {n : Nat} {x : Int32} (hd : decode mt.2.1 pc = .ok (.iload n, 2)) (hl : ls[n]? = some (some (.int x))) (k : Zw d mt cn (pc + 2) ls (.int x :: st) w Q) : Zw d mt cn pc ls (st) w Q := by
  intro g p l e R s m args below meth c Qm C H locs la hR hS hL
  exact lv_iload C.1 C.2.1 hd (hL.2.2 _ _ hl) (k g p l e R s m args below meth c Qm C H locs la hR hS hL)

theorem zw_lload_n {n : Fin 4} {x : Int64} (hd : decode mt.2.1 pc = .ok (.lload_n n, 1)) (hl : ls[(n : Nat)]? = some (some (.long x))) (k : Zw d mt cn (pc + 1) ls (.long x :: st) w Q) : Zw d mt cn pc ls (st) w Q := by
  intro g p l e R s m args below meth c Qm C H locs la hR hS hL
  exact lv_lload_n C.1 C.2.1 hd rfl (hL.2.2 _ _ hl) (k g p l e R s m args below meth c Qm C H locs la hR hS hL)

theorem zw_lload {n : Nat} {x : Int64} (hd : decode mt.2.1 pc = .ok (.lload n, 2)) (hl : ls[n]? = some (some (.long x))) (k : Zw d mt cn (pc + 2) ls (.long x :: st) w Q) : Zw d mt cn pc ls (st) w Q := by
  intro g p l e R s m args below meth c Qm C H locs la hR hS hL
  exact lv_lload C.1 C.2.1 hd (hL.2.2 _ _ hl) (k g p l e R s m args below meth c Qm C H locs la hR hS hL)

theorem zw_aload_n {n : Fin 4} {x : Nat} (hd : decode mt.2.1 pc = .ok (.aload_n n, 1)) (hl : ls[(n : Nat)]? = some (some (.ref x))) (k : Zw d mt cn (pc + 1) ls (.ref x :: st) w Q) : Zw d mt cn pc ls (st) w Q := by
  intro g p l e R s m args below meth c Qm C H locs la hR hS hL
  exact lv_aload_n C.1 C.2.1 hd rfl (hL.2.2 _ _ hl) (k g p l e R s m args below meth c Qm C H locs la hR hS hL)

theorem zw_aload {n : Nat} {x : Nat} (hd : decode mt.2.1 pc = .ok (.aload n, 2)) (hl : ls[n]? = some (some (.ref x))) (k : Zw d mt cn (pc + 2) ls (.ref x :: st) w Q) : Zw d mt cn pc ls (st) w Q := by
  intro g p l e R s m args below meth c Qm C H locs la hR hS hL
  exact lv_aload C.1 C.2.1 hd (hL.2.2 _ _ hl) (k g p l e R s m args below meth c Qm C H locs la hR hS hL)

/-- a place's long in front is gone when the place is written -/
def zc2 (o : Option (Option Value)) : Bool := match o with
  | some (some v) => v.category == 2
  | _ => false
def zkill (ls : List (Option Value)) (i : Nat) : List (Option Value) := match i with
  | 0 => ls
  | j + 1 => if zc2 (ls[j]?) = true then ls.set j none else ls
def zst1 (ls : List (Option Value)) (i : Nat) (v : Value) : List (Option Value) := (zkill ls i).set i (some v)
def zst2 (ls : List (Option Value)) (i : Nat) (v : Value) : List (Option Value) := ((zkill ls i).set i (some v)).set (i + 1) none
theorem zkill_len (ls : List (Option Value)) (i : Nat) : (zkill ls i).length = ls.length := by
  unfold zkill
  split
  · rfl
  · split <;> simp
theorem zkill_get {ls : List (Option Value)} {i j : Nat} {v : Value} (h : (zkill ls i)[j]? = some (some v)) : ls[j]? = some (some v) ∧ ¬ (j + 1 = i ∧ v.category = 2) := by
  unfold zkill at h
  split at h
  · exact ⟨h, by omega⟩
  · rename_i k
    split at h
    · rename_i hc
      by_cases hj : k = j
      · subst hj
        rw [List.getElem?_set] at h
        split at h
        · split at h <;> cases h
        · contradiction
      · rw [List.getElem?_set_ne hj] at h
        exact ⟨h, fun q => hj (by omega)⟩
    · rename_i hc
      refine ⟨h, fun q => hc ?_⟩
      have e : k = j := by omega
      rw [e, h]
      simp [zc2, q.2]
def zlv (g : ZG) (ls : List (Option Value)) : List (Nat × Value) := (List.range ls.length).filterMap (fun i => (ls[i]?.join).map (fun v => (i, zv g v)))
theorem zlv_in {g : ZG} {ls : List (Option Value)} {i : Nat} {v : Value} (h : ls[i]? = some (some v)) : (i, zv g v) ∈ zlv g ls := by
  refine List.mem_filterMap.mpr ⟨i, List.mem_range.mpr (List.getElem?_eq_some_iff.mp h).1, ?_⟩
  rw [h]
  rfl
theorem zlv_of {g : ZG} {ls : List (Option Value)} {q : Nat × Value} (h : q ∈ zlv g ls) : ∃ v, ls[q.1]? = some (some v) ∧ q.2 = zv g v := by
  obtain ⟨i, -, hi⟩ := List.mem_filterMap.mp h
  cases hv : ls[i]? with
  | none => rw [hv] at hi; cases hi
  | some o =>
    cases o with
    | none => rw [hv] at hi; cases hi
    | some v =>
      rw [hv] at hi
      cases hi
      exact ⟨v, hv, rfl⟩
theorem zL.has {g : ZG} {ls : List (Option Value)} {la : Array Slot} (h : zL g ls la) : lv_has la ls.length (zlv g ls) := by
  refine ⟨h.1, h.2.1, fun q hq => ?_⟩
  obtain ⟨v, h1, h2⟩ := zlv_of hq
  rw [h2]
  exact h.2.2 _ _ h1
theorem zL_st1 {g : ZG} {ls : List (Option Value)} {la : Array Slot} {i n : Nat} {v u : Value} (hu : u = zv g v) (hn : n = ls.length) (h : lv_has la n ((i, u) :: (zlv g ls).filter (fun q => !(q.1 == i) && !(q.1 + 1 == i && q.2.category == 2)))) : zL g (zst1 ls i v) la := by
  subst hu
  refine ⟨by rw [h.1, hn]; simp [zst1, zkill_len], h.2.1, fun j x hj => ?_⟩
  by_cases e : i = j
  · subst e
    unfold zst1 at hj
    rw [List.getElem?_set] at hj
    rw [if_pos rfl] at hj
    split at hj
    · cases hj
      exact h.2.2 (i, zv g v) List.mem_cons_self
    · cases hj
  · unfold zst1 at hj
    rw [List.getElem?_set_ne e] at hj
    obtain ⟨h1, h2⟩ := zkill_get hj
    refine h.2.2 (j, zv g x) (List.mem_cons_of_mem _ (List.mem_filter.mpr ⟨zlv_in h1, ?_⟩))
    simp only [Bool.and_eq_true, Bool.not_eq_true', beq_eq_false_iff_ne, ne_eq, Bool.and_eq_false_iff, zv_cat]
    refine ⟨fun q => e q.symm, ?_⟩
    by_cases q : j + 1 = i
    · exact Or.inr (fun z => h2 ⟨q, z⟩)
    · exact Or.inl q
theorem zL_st2 {g : ZG} {ls : List (Option Value)} {la : Array Slot} {i n : Nat} {v u : Value} (hu : u = zv g v) (hn : n = ls.length) (h : lv_has la n ((i, u) :: (zlv g ls).filter (fun q => !(q.1 == i) && (!(q.1 == i + 1) && !(q.1 + 1 == i && q.2.category == 2))))) : zL g (zst2 ls i v) la := by
  subst hu
  refine ⟨by rw [h.1, hn]; simp [zst2, zkill_len], h.2.1, fun j x hj => ?_⟩
  unfold zst2 at hj
  by_cases e2 : i + 1 = j
  · subst e2
    rw [List.getElem?_set, if_pos rfl] at hj
    split at hj <;> cases hj
  · rw [List.getElem?_set_ne e2] at hj
    by_cases e : i = j
    · subst e
      rw [List.getElem?_set, if_pos rfl] at hj
      split at hj
      · cases hj
        exact h.2.2 (i, zv g v) List.mem_cons_self
      · cases hj
    · rw [List.getElem?_set_ne e] at hj
      obtain ⟨h1, h2⟩ := zkill_get hj
      refine h.2.2 (j, zv g x) (List.mem_cons_of_mem _ (List.mem_filter.mpr ⟨zlv_in h1, ?_⟩))
      simp only [Bool.and_eq_true, Bool.not_eq_true', beq_eq_false_iff_ne, ne_eq, Bool.and_eq_false_iff, zv_cat]
      refine ⟨fun q => e q.symm, fun q => e2 q.symm, ?_⟩
      by_cases q : j + 1 = i
      · exact Or.inr (fun z => h2 ⟨q, z⟩)
      · exact Or.inl q

theorem zw_istore_n {n : Fin 4} {x : Int32} (ls' : List (Option Value)) (hd : decode mt.2.1 pc = .ok (.istore_n n, 1)) (hn : (n : Nat) < ls.length) (hl : zst1 ls (n : Nat) (.int x) = ls') (k : Zw d mt cn (pc + 1) ls' st w Q) : Zw d mt cn pc ls (.int x :: st) w Q := by
  subst hl
  intro g p l e R s m args below meth c Qm C H locs la hR hS hL
  exact lv_istore_n C.1 C.2.1 hd rfl hL.has hn rfl (fun la hl => k g p l e R s m args below meth c Qm C H locs la hR hS (zL_st1 rfl rfl hl))

theorem zw_istore {n : Nat} {x : Int32} (ls' : List (Option Value)) (hd : decode mt.2.1 pc = .ok (.istore n, 2)) (hn : n < ls.length) (hl : zst1 ls n (.int x) = ls') (k : Zw d mt cn (pc + 2) ls' st w Q) : Zw d mt cn pc ls (.int x :: st) w Q := by
  subst hl
  intro g p l e R s m args below meth c Qm C H locs la hR hS hL
  exact lv_istore C.1 C.2.1 hd hL.has hn rfl (fun la hl => k g p l e R s m args below meth c Qm C H locs la hR hS (zL_st1 rfl rfl hl))

theorem zw_lstore_n {n : Fin 4} {x : Int64} (ls' : List (Option Value)) (hd : decode mt.2.1 pc = .ok (.lstore_n n, 1)) (hn : (n : Nat) + 1 < ls.length) (hl : zst2 ls (n : Nat) (.long x) = ls') (k : Zw d mt cn (pc + 1) ls' st w Q) : Zw d mt cn pc ls (.long x :: st) w Q := by
  subst hl
  intro g p l e R s m args below meth c Qm C H locs la hR hS hL
  exact lv_lstore_n C.1 C.2.1 hd rfl hL.has hn rfl (fun la hl => k g p l e R s m args below meth c Qm C H locs la hR hS (zL_st2 rfl rfl hl))

theorem zw_lstore {n : Nat} {x : Int64} (ls' : List (Option Value)) (hd : decode mt.2.1 pc = .ok (.lstore n, 2)) (hn : n + 1 < ls.length) (hl : zst2 ls n (.long x) = ls') (k : Zw d mt cn (pc + 2) ls' st w Q) : Zw d mt cn pc ls (.long x :: st) w Q := by
  subst hl
  intro g p l e R s m args below meth c Qm C H locs la hR hS hL
  exact lv_lstore C.1 C.2.1 hd hL.has hn rfl (fun la hl => k g p l e R s m args below meth c Qm C H locs la hR hS (zL_st2 rfl rfl hl))

theorem zw_astore_n {n : Fin 4} {x : Nat} (ls' : List (Option Value)) (hd : decode mt.2.1 pc = .ok (.astore_n n, 1)) (hn : (n : Nat) < ls.length) (hl : zst1 ls (n : Nat) (.ref x) = ls') (k : Zw d mt cn (pc + 1) ls' st w Q) : Zw d mt cn pc ls (.ref x :: st) w Q := by
  subst hl
  intro g p l e R s m args below meth c Qm C H locs la hR hS hL
  exact lv_astore_n C.1 C.2.1 hd rfl hL.has hn rfl (fun la hl => k g p l e R s m args below meth c Qm C H locs la hR hS (zL_st1 rfl rfl hl))

theorem zw_astore {n : Nat} {x : Nat} (ls' : List (Option Value)) (hd : decode mt.2.1 pc = .ok (.astore n, 2)) (hn : n < ls.length) (hl : zst1 ls n (.ref x) = ls') (k : Zw d mt cn (pc + 2) ls' st w Q) : Zw d mt cn pc ls (.ref x :: st) w Q := by
  subst hl
  intro g p l e R s m args below meth c Qm C H locs la hR hS hL
  exact lv_astore C.1 C.2.1 hd hL.has hn rfl (fun la hl => k g p l e R s m args below meth c Qm C H locs la hR hS (zL_st1 rfl rfl hl))

theorem zw_iinc {n : Nat} {i : Int} {x : Int32} (v : Int32) (ls' : List (Option Value)) (hd : decode mt.2.1 pc = .ok (.iinc n i, 3)) (hx : ls[n]? = some (some (.int x))) (hv : x + Int32.ofInt i = v) (hl : zst1 ls n (.int v) = ls') (k : Zw d mt cn (pc + 3) ls' st w Q) : Zw d mt cn pc ls st w Q := by
  subst hl
  intro g p l e R s m args below meth c Qm C H locs la hR hS hL
  have hn : n < ls.length := (List.getElem?_eq_some_iff.mp hx).1
  have hh : lv_has la ls.length ((n, Value.int x) :: zlv g ls) := ⟨hL.has.1, hL.has.2.1, fun q hq => by
    rcases List.mem_cons.mp hq with rfl | hq
    · exact hL.2.2 _ _ hx
    · exact hL.has.2.2 q hq⟩
  refine lv_iinc C.1 C.2.1 hd hh (k := 0) rfl hv hn rfl (fun la hl => ?_)
  rw [List.filter_cons_of_neg (by simp)] at hl
  exact k g p l e R s m args below meth c Qm C H locs la hR hS (zL_st1 rfl rfl hl)

theorem zw_if_eq {x : Int32} {off : Int} (tgt : Nat) (hd : decode mt.2.1 pc = .ok (.ifCond .eq off, 3)) (ht : (pc : Int) + off = (tgt : Int)) (kt : x = 0 → Zw d mt cn tgt ls st w Q) (kf : ¬ (x = 0) → Zw d mt cn (pc + 3) ls st w Q) : Zw d mt cn pc ls (.int x :: st) w Q := by
  intro g p l e R s m args below meth c Qm C H locs la hR hS hL
  exact lv_if_eq C.1 C.2.1 hd ht (fun h => kt h g p l e R s m args below meth c Qm C H locs la hR hS hL) (fun h => kf h g p l e R s m args below meth c Qm C H locs la hR hS hL)

theorem zw_icmp_eq {x y : Int32} {off : Int} (tgt : Nat) (hd : decode mt.2.1 pc = .ok (.if_icmp .eq off, 3)) (ht : (pc : Int) + off = (tgt : Int)) (kt : x = y → Zw d mt cn tgt ls st w Q) (kf : ¬ (x = y) → Zw d mt cn (pc + 3) ls st w Q) : Zw d mt cn pc ls (.int y :: .int x :: st) w Q := by
  intro g p l e R s m args below meth c Qm C H locs la hR hS hL
  exact lv_icmp_eq C.1 C.2.1 hd ht (fun h => kt h g p l e R s m args below meth c Qm C H locs la hR hS hL) (fun h => kf h g p l e R s m args below meth c Qm C H locs la hR hS hL)

theorem zw_if_ne {x : Int32} {off : Int} (tgt : Nat) (hd : decode mt.2.1 pc = .ok (.ifCond .ne off, 3)) (ht : (pc : Int) + off = (tgt : Int)) (kt : ¬ x = 0 → Zw d mt cn tgt ls st w Q) (kf : x = 0 → Zw d mt cn (pc + 3) ls st w Q) : Zw d mt cn pc ls (.int x :: st) w Q := by
  intro g p l e R s m args below meth c Qm C H locs la hR hS hL
  exact lv_if_ne C.1 C.2.1 hd ht (fun h => kt h g p l e R s m args below meth c Qm C H locs la hR hS hL) (fun h => kf h g p l e R s m args below meth c Qm C H locs la hR hS hL)

theorem zw_icmp_ne {x y : Int32} {off : Int} (tgt : Nat) (hd : decode mt.2.1 pc = .ok (.if_icmp .ne off, 3)) (ht : (pc : Int) + off = (tgt : Int)) (kt : ¬ x = y → Zw d mt cn tgt ls st w Q) (kf : x = y → Zw d mt cn (pc + 3) ls st w Q) : Zw d mt cn pc ls (.int y :: .int x :: st) w Q := by
  intro g p l e R s m args below meth c Qm C H locs la hR hS hL
  exact lv_icmp_ne C.1 C.2.1 hd ht (fun h => kt h g p l e R s m args below meth c Qm C H locs la hR hS hL) (fun h => kf h g p l e R s m args below meth c Qm C H locs la hR hS hL)

theorem zw_if_lt {x : Int32} {off : Int} (tgt : Nat) (hd : decode mt.2.1 pc = .ok (.ifCond .lt off, 3)) (ht : (pc : Int) + off = (tgt : Int)) (kt : x < 0 → Zw d mt cn tgt ls st w Q) (kf : ¬ (x < 0) → Zw d mt cn (pc + 3) ls st w Q) : Zw d mt cn pc ls (.int x :: st) w Q := by
  intro g p l e R s m args below meth c Qm C H locs la hR hS hL
  exact lv_if_lt C.1 C.2.1 hd ht (fun h => kt h g p l e R s m args below meth c Qm C H locs la hR hS hL) (fun h => kf h g p l e R s m args below meth c Qm C H locs la hR hS hL)

theorem zw_icmp_lt {x y : Int32} {off : Int} (tgt : Nat) (hd : decode mt.2.1 pc = .ok (.if_icmp .lt off, 3)) (ht : (pc : Int) + off = (tgt : Int)) (kt : x < y → Zw d mt cn tgt ls st w Q) (kf : ¬ (x < y) → Zw d mt cn (pc + 3) ls st w Q) : Zw d mt cn pc ls (.int y :: .int x :: st) w Q := by
  intro g p l e R s m args below meth c Qm C H locs la hR hS hL
  exact lv_icmp_lt C.1 C.2.1 hd ht (fun h => kt h g p l e R s m args below meth c Qm C H locs la hR hS hL) (fun h => kf h g p l e R s m args below meth c Qm C H locs la hR hS hL)

theorem zw_if_ge {x : Int32} {off : Int} (tgt : Nat) (hd : decode mt.2.1 pc = .ok (.ifCond .ge off, 3)) (ht : (pc : Int) + off = (tgt : Int)) (kt : 0 ≤ x → Zw d mt cn tgt ls st w Q) (kf : ¬ (0 ≤ x) → Zw d mt cn (pc + 3) ls st w Q) : Zw d mt cn pc ls (.int x :: st) w Q := by
  intro g p l e R s m args below meth c Qm C H locs la hR hS hL
  exact lv_if_ge C.1 C.2.1 hd ht (fun h => kt h g p l e R s m args below meth c Qm C H locs la hR hS hL) (fun h => kf h g p l e R s m args below meth c Qm C H locs la hR hS hL)

theorem zw_icmp_ge {x y : Int32} {off : Int} (tgt : Nat) (hd : decode mt.2.1 pc = .ok (.if_icmp .ge off, 3)) (ht : (pc : Int) + off = (tgt : Int)) (kt : y ≤ x → Zw d mt cn tgt ls st w Q) (kf : ¬ (y ≤ x) → Zw d mt cn (pc + 3) ls st w Q) : Zw d mt cn pc ls (.int y :: .int x :: st) w Q := by
  intro g p l e R s m args below meth c Qm C H locs la hR hS hL
  exact lv_icmp_ge C.1 C.2.1 hd ht (fun h => kt h g p l e R s m args below meth c Qm C H locs la hR hS hL) (fun h => kf h g p l e R s m args below meth c Qm C H locs la hR hS hL)

theorem zw_if_gt {x : Int32} {off : Int} (tgt : Nat) (hd : decode mt.2.1 pc = .ok (.ifCond .gt off, 3)) (ht : (pc : Int) + off = (tgt : Int)) (kt : 0 < x → Zw d mt cn tgt ls st w Q) (kf : ¬ (0 < x) → Zw d mt cn (pc + 3) ls st w Q) : Zw d mt cn pc ls (.int x :: st) w Q := by
  intro g p l e R s m args below meth c Qm C H locs la hR hS hL
  exact lv_if_gt C.1 C.2.1 hd ht (fun h => kt h g p l e R s m args below meth c Qm C H locs la hR hS hL) (fun h => kf h g p l e R s m args below meth c Qm C H locs la hR hS hL)

theorem zw_icmp_gt {x y : Int32} {off : Int} (tgt : Nat) (hd : decode mt.2.1 pc = .ok (.if_icmp .gt off, 3)) (ht : (pc : Int) + off = (tgt : Int)) (kt : y < x → Zw d mt cn tgt ls st w Q) (kf : ¬ (y < x) → Zw d mt cn (pc + 3) ls st w Q) : Zw d mt cn pc ls (.int y :: .int x :: st) w Q := by
  intro g p l e R s m args below meth c Qm C H locs la hR hS hL
  exact lv_icmp_gt C.1 C.2.1 hd ht (fun h => kt h g p l e R s m args below meth c Qm C H locs la hR hS hL) (fun h => kf h g p l e R s m args below meth c Qm C H locs la hR hS hL)

theorem zw_if_le {x : Int32} {off : Int} (tgt : Nat) (hd : decode mt.2.1 pc = .ok (.ifCond .le off, 3)) (ht : (pc : Int) + off = (tgt : Int)) (kt : x ≤ 0 → Zw d mt cn tgt ls st w Q) (kf : ¬ (x ≤ 0) → Zw d mt cn (pc + 3) ls st w Q) : Zw d mt cn pc ls (.int x :: st) w Q := by
  intro g p l e R s m args below meth c Qm C H locs la hR hS hL
  exact lv_if_le C.1 C.2.1 hd ht (fun h => kt h g p l e R s m args below meth c Qm C H locs la hR hS hL) (fun h => kf h g p l e R s m args below meth c Qm C H locs la hR hS hL)

theorem zw_icmp_le {x y : Int32} {off : Int} (tgt : Nat) (hd : decode mt.2.1 pc = .ok (.if_icmp .le off, 3)) (ht : (pc : Int) + off = (tgt : Int)) (kt : x ≤ y → Zw d mt cn tgt ls st w Q) (kf : ¬ (x ≤ y) → Zw d mt cn (pc + 3) ls st w Q) : Zw d mt cn pc ls (.int y :: .int x :: st) w Q := by
  intro g p l e R s m args below meth c Qm C H locs la hR hS hL
  exact lv_icmp_le C.1 C.2.1 hd ht (fun h => kt h g p l e R s m args below meth c Qm C H locs la hR hS hL) (fun h => kf h g p l e R s m args below meth c Qm C H locs la hR hS hL)

theorem zw_goto {off : Int} (tgt : Nat) (hd : decode mt.2.1 pc = .ok (.goto off, 3)) (ht : (pc : Int) + off = (tgt : Int)) (k : Zw d mt cn tgt ls st w Q) : Zw d mt cn pc ls st w Q := by
  intro g p l e R s m args below meth c Qm C H locs la hR hS hL
  exact lv_goto C.1 C.2.1 hd ht (k g p l e R s m args below meth c Qm C H locs la hR hS hL)
theorem zw_tableOut {dflt lo hi : Int} {offs : Array Int} {len : Nat} {x : Int32} (tgt : Nat) (hd : decode mt.2.1 pc = .ok (.tableswitch dflt lo hi offs, len)) (h : x.toInt < lo ∨ hi < x.toInt) (ht : (pc : Int) + dflt = (tgt : Int)) (k : Zw d mt cn tgt ls st w Q) : Zw d mt cn pc ls (.int x :: st) w Q := by
  intro g p l e R s m args below meth c Qm C H locs la hR hS hL
  exact lv_tableOut C.1 C.2.1 hd h ht (k g p l e R s m args below meth c Qm C H locs la hR hS hL)
theorem zw_tableIn {dflt lo hi : Int} {offs : Array Int} {len : Nat} {x : Int32} {off : Int} (tgt : Nat) (hd : decode mt.2.1 pc = .ok (.tableswitch dflt lo hi offs, len)) (h1 : ¬ x.toInt < lo) (h2 : ¬ hi < x.toInt) (ho : offs[(x.toInt - lo).toNat]? = some off) (ht : (pc : Int) + off = (tgt : Int)) (k : Zw d mt cn tgt ls st w Q) : Zw d mt cn pc ls (.int x :: st) w Q := by
  intro g p l e R s m args below meth c Qm C H locs la hR hS hL
  exact lv_tableIn C.1 C.2.1 hd h1 h2 ho ht (k g p l e R s m args below meth c Qm C H locs la hR hS hL)
theorem zw_lookup {dflt : Int} {ps : Array (Int × Int)} {len : Nat} {x : Int32} {off : Int} (tgt : Nat) (hd : decode mt.2.1 pc = .ok (.lookupswitch dflt ps, len)) (hp : (ps.toList.zip (ps.toList.drop 1)).all (fun (a, next) => a.1 < next.1) = true) (ho : Op.lookupswitch.offset ps.toList dflt x.toInt = off) (ht : (pc : Int) + off = (tgt : Int)) (k : Zw d mt cn tgt ls st w Q) : Zw d mt cn pc ls (.int x :: st) w Q := by
  intro g p l e R s m args below meth c Qm C H locs la hR hS hL
  exact lv_lookup C.1 C.2.1 hd hp ho ht (k g p l e R s m args below meth c Qm C H locs la hR hS hL)
/-- fewer locals known -/
theorem zw_drop (ls' : List (Option Value)) (h1 : ls'.length = ls.length) (h2 : ∀ (i : Nat) (v : Value), ls'[i]? = some (some v) → ls[i]? = some (some v)) (k : Zw d mt cn pc ls' st w Q) : Zw d mt cn pc ls st w Q := by
  intro g p l e R s m args below meth c Qm C H locs la hR hS hL
  exact k g p l e R s m args below meth c Qm C H locs la hR hS ⟨by rw [h1]; exact hL.1, hL.2.1, fun i v h => hL.2.2 i v (h2 i v h)⟩

theorem zw_ret {v : Option Value} (ins : Instr) (hd : decode mt.2.1 pc = .ok (ins, 1)) (hr : zRet ins v mt.2.2.2) (h1 : cn.1 ≤ cn.2.2.1) (h2 : cn.2.1 ≤ cn.2.2.2) (hQ : Q v w) : Zw d mt cn pc ls v.toList w Q := by
  intro g p l e R s m args below meth c Qm C H locs la hR hS hL
  have e : v.toList.map (zv g) = (v.map (zv g)).toList := by cases v <;> rfl
  rw [e]
  exact W.widen h1 h2 (C.2.2.2.2.2.2.2.2 v w H locs pc la ins hQ hr hd hR hS)
theorem zw_ireturn {x : Int32} (ty : FieldType) (hd : decode mt.2.1 pc = .ok (.ireturn, 1)) (ht : mt.2.2.2 = some ty) (hn : narrow ty (.int x) = .int x) (h1 : cn.1 ≤ cn.2.2.1) (h2 : cn.2.1 ≤ cn.2.2.2) (hQ : Q (some (.int x)) w) : Zw d mt cn pc ls [.int x] w Q := zw_ret (v := some (.int x)) .ireturn hd (Or.inl ⟨rfl, x, ty, rfl, ht, hn⟩) h1 h2 hQ
theorem zw_lreturn {x : Int64} (hd : decode mt.2.1 pc = .ok (.lreturn, 1)) (ht : mt.2.2.2 = some .long) (h1 : cn.1 ≤ cn.2.2.1) (h2 : cn.2.1 ≤ cn.2.2.2) (hQ : Q (some (.long x)) w) : Zw d mt cn pc ls [.long x] w Q := zw_ret (v := some (.long x)) .lreturn hd (Or.inr (Or.inl ⟨rfl, x, rfl, ht⟩)) h1 h2 hQ
theorem zw_areturn {x : Nat} (n : String) (hd : decode mt.2.1 pc = .ok (.areturn, 1)) (ht : mt.2.2.2 = some (.object n)) (h1 : cn.1 ≤ cn.2.2.1) (h2 : cn.2.1 ≤ cn.2.2.2) (hQ : Q (some (.ref x)) w) : Zw d mt cn pc ls [.ref x] w Q := zw_ret (v := some (.ref x)) .areturn hd (Or.inr (Or.inr (Or.inl ⟨rfl, x, n, rfl, ht⟩))) h1 h2 hQ
theorem zw_return (hd : decode mt.2.1 pc = .ok (.return_, 1)) (ht : mt.2.2.2 = none) (h1 : cn.1 ≤ cn.2.2.1) (h2 : cn.2.1 ≤ cn.2.2.2) (hQ : Q none w) : Zw d mt cn pc ls [] w Q := zw_ret (v := none) .return_ hd (Or.inr (Or.inr (Or.inr ⟨rfl, rfl, ht⟩))) h1 h2 hQ
end ZRULES
end
section
/-! ===== fields, rows, making, calls ===== -/
/-- entry idx of own's file is field k of class ci, for reading -/
def zF (own : String) (idx ci k : Nat) : Prop := ∃ (C : String) (T : u_T) (N : Nat), vwCl[ci]? = some (C, T, N) ∧ k < N ∧ (∀ x ∈ u_ws C T N, x ∈ zT) ∧ (Cond.fieldLink own idx (T k).1 (T k).2.1 (T k).2.2.1 ∈ zT ∨ ∃ host, Cond.fieldLinkNest own idx (T k).1 (T k).2.1 (T k).2.2.1 host ∈ zTN)
/-- for writing: its type, whether it is final -/
def zP (own : String) (idx ci k : Nat) (ty : FieldType) (fin : Bool) : Prop := ∃ (C : String) (T : u_T) (N : Nat) (ty0 : Nat → FieldType), vwCl[ci]? = some (C, T, N) ∧ k < N ∧ (∀ x ∈ u_ws C T N, x ∈ zT) ∧ Cond.fieldLink own idx (T k).1 (T k).2.1 (T k).2.2.1 ∈ zT ∧ (∀ k, k < N → parseFieldDescriptor (T k).2.2.1 = some (ty0 k)) ∧ (∀ a, a < N → ∀ b, b < N → a ≠ b → (T a).2.1 ≠ (T b).2.1) ∧ parseFieldDescriptor (T k).2.2.1 = some ty ∧ (T k).2.2.2 = fin ∧ (T k).1 = own
section ZHEAP
variable {d : Nat} {mt : ZM} {cn : ZN} {pc : Nat} {ls : List (Option Value)} {st : List Value} {w : ZW} {Q : Option Value → ZW → Prop}
theorem zR.addr {g : ZG} {w : ZW} {H : Heap} {r : Nat} {e : ZE} (h : zR g w H) (hr : zat w r e) : za g r = g.1 + r := za_lt (Nat.lt_of_lt_of_le hr.1 h.2.1)
theorem zR.cell {g : ZG} {w : ZW} {H : Heap} {r : Nat} {e : ZE} (h : zR g w H) (hr : zat w r e) : (zl g w)[r]? = some (za g r, ze g e) := by
  rw [h.addr hr, zl_at hr.1, hr.2]
theorem zR.put {g : ZG} {w : ZW} {H H1 : Heap} {r : Nat} {e0 e : ZE} (h : zR g w H) (hr : zat w r e0) (hz : H1.size = H.size) (hP : va_P g.2.2.1 vwCl ((zl g w).set r (za g r, ze g e)) H1) : zR g (zput w r e) H1 := by
  rw [h.addr hr, zl_set e hr.1] at hP
  exact ⟨hz.trans h.1, h.2.1, hP⟩
theorem zw_get {idx ci k r : Nat} {fs : List Value} {v : Value} (hd : decode mt.2.1 pc = .ok (.getfield idx, 3)) (hF : zF mt.1.cls idx ci k) (h : zat w r (.inr (ci, fs))) (hv : fs[k]? = some v) (kk : Zw d mt cn (pc + 3) ls (v :: st) w Q) : Zw d mt cn pc ls (.ref r :: st) w Q := by
  intro g p l e R s m args below meth c Qm C H locs la hR hS hL
  obtain ⟨C0, T, N, hc, hk, hin, hl⟩ := hF
  have hv' : (fs.map (zv g))[k]? = some (zv g v) := by rw [List.getElem?_map, hv]; rfl
  have K := kk g p l e R s m args below meth c Qm C H locs la hR hS hL
  have e0 := C.2.2.2.2.2.2.2.1
  rcases hl with hl | ⟨host, hl⟩
  · exact va_get C.1 C.2.1 C.2.2.2.2.1 hin C.2.2.2.1 e0.1.1 hR.2.2 r (hR.cell h) hc k hk (C.2.2.2.2.1 _ hl) (fun _ q => q) hv' hd K
  · exact va_getN C.1 C.2.1 C.2.2.2.2.1 hin C.2.2.2.1 e0.1.1 hR.2.2 r (hR.cell h) hc k hk (va_Nw.use rfl (e0.1.2.2 _ hl)) (fun _ q => q) hv' hd K
theorem zw_put {idx ci k r : Nat} {fs : List Value} {v : Value} {ty : FieldType} (hd : decode mt.2.1 pc = .ok (.putfield idx, 3)) (hF : zP mt.1.cls idx ci k ty false) (h : zat w r (.inr (ci, fs))) (hn : ∀ g, narrow ty (zv g v) = zv g v) (hf : ∀ g, fits ty (zv g v) = true) (hl : k < fs.length) (kk : Zw d mt cn (pc + 3) ls st (zput w r (.inr (ci, fs.set k v))) Q) : Zw d mt cn pc ls (v :: .ref r :: st) w Q := by
  intro g p l e R s m args below meth c Qm C H locs la hR hS hL
  obtain ⟨C0, T, N, ty0, hc, hk, hin, hlk, hty, hnm, hdt, hfin, hdecl⟩ := hF
  have hts := C.2.2.2.2.1
  have hK := C.2.2.2.2.2.2.2.1.1.1
  have hP := hR.2.2
  have he := hR.cell h
  have hap := va_apart (own := mt.1.cls) hts hin ty0 hty hnm hK hc
  obtain ⟨r0, h1, cell, q1, q2, q3, q4⟩ := hP r _ he
  have hr0 : r0 = (C0, T, N) := Option.some.inj (h1.symm.trans hc)
  subst hr0
  obtain ⟨hSl, hfc, kC, hkC, hkind⟩ := hK.1 ci _ hc
  obtain ⟨cf, kf, fi, f, hi, hsl⟩ := hSl k hk
  have hlay := hts _ (hin _ (u_in_lay hk))
  unfold u_lay at hlay
  rw [if_neg (by rw [hfin]; decide)] at hlay
  have hst := (u_facts hfc hkC (u_lays hts hin hk) hi).1
  have h6 := u_store hfc hkC hkind hlay hi hdt (hn g) (hf g)
  refine W.putK C.1 C.2.1 (f := f) ⟨C.2.2.2.1, hts _ hlk, ⟨_, _, _, hi⟩, hst⟩ (by rw [q2]; exact h6) q1 q3 (by rw [hsl]; exact k2_hasslot (q4 k hk)) rfl rfl hd fun H' e1 e2 e3 => ?_
  rw [hsl] at e1 ⊢
  have hD := zl_D g w
  have e5 : (fs.map (zv g)).set k (zv g v) = (fs.set k v).map (zv g) := by rw [List.map_set]
  have hP' : va_P g.2.2.1 vwCl ((zl g w).set r (za g r, ze g (.inr (ci, fs.set k v)))) H' := hP.set hD he ⟨_, hc, t_OB.to (V := updV (vp_V (fs.map (zv g))) k (zv g v)) ⟨_, e1, q2, q3, t_set q4 hap hk (zv g v)⟩ (fun j _ => by rw [vp_updV_set (by simpa using hl), e5])⟩ e3
  exact kk g p l e R s m args below meth c Qm C H' _ la (hR.put h e2 hP') (hS.put e2 e3 (hD.2 r _ he)) hL
theorem zw_putF {idx ci k r : Nat} {fs : List Value} {v : Value} {ty : FieldType} (hd : decode mt.2.1 pc = .ok (.putfield idx, 3)) (hF : zP mt.1.cls idx ci k ty true) (hini : mt.1.name = "<init>") (h : zat w r (.inr (ci, fs))) (hn : ∀ g, narrow ty (zv g v) = zv g v) (hf : ∀ g, fits ty (zv g v) = true) (hl : k < fs.length) (kk : Zw d mt cn (pc + 3) ls st (zput w r (.inr (ci, fs.set k v))) Q) : Zw d mt cn pc ls (v :: .ref r :: st) w Q := by
  intro g p l e R s m args below meth c Qm C H locs la hR hS hL
  obtain ⟨C0, T, N, ty0, hc, hk, hin, hlk, hty, hnm, hdt, hfin, hdecl⟩ := hF
  have hts := C.2.2.2.2.1
  have hK := C.2.2.2.2.2.2.2.1.1.1
  have hP := hR.2.2
  have he := hR.cell h
  have hap := va_apart (own := mt.1.cls) hts hin ty0 hty hnm hK hc
  obtain ⟨r0, h1, cell, q1, q2, q3, q4⟩ := hP r _ he
  have hr0 : r0 = (C0, T, N) := Option.some.inj (h1.symm.trans hc)
  subst hr0
  obtain ⟨hSl, hfc, kC, hkC, hkind⟩ := hK.1 ci _ hc
  obtain ⟨cf, kf, fi, f, hi, hsl⟩ := hSl k hk
  have hlay := hts _ (hin _ (u_in_lay hk))
  unfold u_lay at hlay
  rw [if_pos hfin] at hlay
  have hst := (u_facts hfc hkC (u_lays hts hin hk) hi).1
  have hcf : m.cls = cf := by
    obtain ⟨_, _, c', _, _, _, -, -, hf', -, -, -, hown2, -⟩ := Cond.laysFinal_spec hlay
    have e1 : c' = cf := by have := hi.symm.trans hf'; simp at this; exact this.1.symm
    rw [hdecl] at hown2
    rw [← e1]; exact Option.some.inj (C.2.2.2.1.symm.trans hown2)
  have h6 := u_fits hfc hkC hkind (Or.inr hlay) hi hdt (hn g) (hf g)
  refine W.putFinK C.1 C.2.1 C.2.2.2.1 (hts _ hlk) hi hst hcf (C.2.2.2.2.2.1.trans hini) (by rw [q2]; exact h6) q1 q3 (by rw [hsl]; exact k2_hasslot (q4 k hk)) rfl rfl hd fun H' e1 e2 e3 => ?_
  rw [hsl] at e1 ⊢
  have hD := zl_D g w
  have e5 : (fs.map (zv g)).set k (zv g v) = (fs.set k v).map (zv g) := by rw [List.map_set]
  have hP' : va_P g.2.2.1 vwCl ((zl g w).set r (za g r, ze g (.inr (ci, fs.set k v)))) H' := hP.set hD he ⟨_, hc, t_OB.to (V := updV (vp_V (fs.map (zv g))) k (zv g v)) ⟨_, e1, q2, q3, t_set q4 hap hk (zv g v)⟩ (fun j _ => by rw [vp_updV_set (by simpa using hl), e5])⟩ e3
  exact kk g p l e R s m args below meth c Qm C H' _ la (hR.put h e2 hP') (hS.put e2 e3 (hD.2 r _ he)) hL
/-! rows -/
theorem zw_iald {a n : Nat} {f : Nat → Int32} {i : Int32} (hd : decode mt.2.1 pc = .ok (.iaload, 1)) (h : zat w a (.inl (0, n, f))) (hin : vp_in i n) (kk : Zw d mt cn (pc + 1) ls (.int (f i.toNatClampNeg) :: st) w Q) : Zw d mt cn pc ls (.int i :: .ref a :: st) w Q := by
  intro g p l e R s m args below meth c Qm C H locs la hR hS hL
  exact va_iald C.1 C.2.1 C.2.2.2.2.2.2.2.1.1.1 hR.2.2 a 0 (hR.cell h) rfl hin hd (kk g p l e R s m args below meth c Qm C H locs la hR hS hL)
theorem zw_bald {a n : Nat} {f : Nat → Int32} {i : Int32} (hd : decode mt.2.1 pc = .ok (.baload, 1)) (h : zat w a (.inl (1, n, f))) (hin : vp_in i n) (kk : Zw d mt cn (pc + 1) ls (.int (f i.toNatClampNeg) :: st) w Q) : Zw d mt cn pc ls (.int i :: .ref a :: st) w Q := by
  intro g p l e R s m args below meth c Qm C H locs la hR hS hL
  exact va_bald C.1 C.2.1 C.2.2.2.2.2.2.2.1.1.1 hR.2.2 a 1 (hR.cell h) rfl hin hd (kk g p l e R s m args below meth c Qm C H locs la hR hS hL)
theorem zw_zald {a n : Nat} {f : Nat → Int32} {i : Int32} (hd : decode mt.2.1 pc = .ok (.baload, 1)) (h : zat w a (.inl (2, n, f))) (hin : vp_in i n) (kk : Zw d mt cn (pc + 1) ls (.int (f i.toNatClampNeg) :: st) w Q) : Zw d mt cn pc ls (.int i :: .ref a :: st) w Q := by
  intro g p l e R s m args below meth c Qm C H locs la hR hS hL
  exact va_zald C.1 C.2.1 C.2.2.2.2.2.2.2.1.1.1 hR.2.2 a 2 (hR.cell h) rfl hin hd (kk g p l e R s m args below meth c Qm C H locs la hR hS hL)
theorem zcell_upd (cA : ClassId) (n : Nat) (f : Nat → Int32) (i : Nat) (x : Int32) : (vp_cell cA (n, .inl f)).setSlot i (.int x) = vp_cell cA (n, .inl (upd f i x)) := by
  rw [vp_cell_i, vp_cell_i, arrV_store]
  congr 1
  funext q
  by_cases hq : q = i
  · subst hq
    simp [updV, upd]
  · simp [updV, upd, hq]
theorem zw_iast {a n : Nat} {f : Nat → Int32} {i x : Int32} (hd : decode mt.2.1 pc = .ok (.iastore, 1)) (h : zat w a (.inl (0, n, f))) (hin : vp_in i n) (kk : Zw d mt cn (pc + 1) ls st (zput w a (.inl (0, n, upd f i.toNatClampNeg x))) Q) : Zw d mt cn pc ls (.int x :: .int i :: .ref a :: st) w Q := by
  intro g p l e R s m args below meth c Qm C H locs la hR hS hL
  have hP := hR.2.2
  have ha := hR.cell h
  have hD := zl_D g w
  have hK := C.2.2.2.2.2.2.2.1.1.1
  refine W.iast C.1 C.2.1 (hP a _ ha) ((hK.2 0 _ rfl).1 n (fun j => .int (f j))) (fun q => by cases q) (by show ¬ (i < 0 ∨ (arrV _ _ _).slots.size ≤ _); rw [arrV_size]; exact hin) rfl rfl hd fun H1 e1 z oq => ?_
  have hP' : va_P g.2.2.1 vwCl ((zl g w).set a (za g a, ze g (.inl (0, n, upd f i.toNatClampNeg x)))) H1 := hP.set hD ha (by
    show H1[za g a]? = some (vp_cell _ _)
    rw [← zcell_upd]
    exact e1) oq
  exact kk g p l e R s m args below meth c Qm C H1 _ la (hR.put h z hP') (hS.put z oq (hD.2 a _ ha)) hL
theorem zw_bast {a n : Nat} {f : Nat → Int32} {i x : Int32} (hd : decode mt.2.1 pc = .ok (.bastore, 1)) (h : zat w a (.inl (1, n, f))) (hin : vp_in i n) (kk : Zw d mt cn (pc + 1) ls st (zput w a (.inl (1, n, upd f i.toNatClampNeg (vp_nar .byte x)))) Q) : Zw d mt cn pc ls (.int x :: .int i :: .ref a :: st) w Q := by
  intro g p l e R s m args below meth c Qm C H locs la hR hS hL
  have hP := hR.2.2
  have ha := hR.cell h
  have hD := zl_D g w
  have hK := C.2.2.2.2.2.2.2.1.1.1
  refine W.bast C.1 C.2.1 (hP a _ ha) ((hK.2 1 _ rfl).1 n (fun j => .int (f j))) (fun q => by cases q) (by show ¬ (i < 0 ∨ (arrV _ _ _).slots.size ≤ _); rw [arrV_size]; exact hin) rfl rfl hd fun H1 e1 z oq => ?_
  have hP' : va_P g.2.2.1 vwCl ((zl g w).set a (za g a, ze g (.inl (1, n, upd f i.toNatClampNeg (vp_nar .byte x))))) H1 := hP.set hD ha (by
    show H1[za g a]? = some (vp_cell _ _)
    rw [← zcell_upd]
    exact e1) oq
  exact kk g p l e R s m args below meth c Qm C H1 _ la (hR.put h z hP') (hS.put z oq (hD.2 a _ ha)) hL
theorem zw_zast {a n : Nat} {f : Nat → Int32} {i x : Int32} (hd : decode mt.2.1 pc = .ok (.bastore, 1)) (h : zat w a (.inl (2, n, f))) (hin : vp_in i n) (kk : Zw d mt cn (pc + 1) ls st (zput w a (.inl (2, n, upd f i.toNatClampNeg (vp_nar .boolean x)))) Q) : Zw d mt cn pc ls (.int x :: .int i :: .ref a :: st) w Q := by
  intro g p l e R s m args below meth c Qm C H locs la hR hS hL
  have hP := hR.2.2
  have ha := hR.cell h
  have hD := zl_D g w
  have hK := C.2.2.2.2.2.2.2.1.1.1
  refine W.zast C.1 C.2.1 (hP a _ ha) ((hK.2 2 _ rfl).1 n (fun j => .int (f j))) (fun q => by cases q) (by show ¬ (i < 0 ∨ (arrV _ _ _).slots.size ≤ _); rw [arrV_size]; exact hin) rfl rfl hd fun H1 e1 z oq => ?_
  have hP' : va_P g.2.2.1 vwCl ((zl g w).set a (za g a, ze g (.inl (2, n, upd f i.toNatClampNeg (vp_nar .boolean x))))) H1 := hP.set hD ha (by
    show H1[za g a]? = some (vp_cell _ _)
    rw [← zcell_upd]
    exact e1) oq
  exact kk g p l e R s m args below meth c Qm C H1 _ la (hR.put h z hP') (hS.put z oq (hD.2 a _ ha)) hL
theorem zw_alen {a t n : Nat} {f : Nat → Int32} (hd : decode mt.2.1 pc = .ok (.arraylength, 1)) (h : zat w a (.inl (t, n, f))) (ht : t < 3) (kk : Zw d mt cn (pc + 1) ls (.int (Int32.ofNat n) :: st) w Q) : Zw d mt cn pc ls (.ref a :: st) w Q := by
  intro g p l e R s m args below meth c Qm C H locs la hR hS hL
  have K := kk g p l e R s m args below meth c Qm C H locs la hR hS hL
  have hK := C.2.2.2.2.2.2.2.1.1.1
  match t, ht with
  | 0, _ => exact va_alen C.1 C.2.1 hK hR.2.2 a 0 (hR.cell h) (ty := .int) rfl rfl hd K
  | 1, _ => exact va_alen C.1 C.2.1 hK hR.2.2 a 1 (hR.cell h) (ty := .byte) rfl rfl hd K
  | 2, _ => exact va_alen C.1 C.2.1 hK hR.2.2 a 2 (hR.cell h) (ty := .boolean) rfl rfl hd K
end ZHEAP
end
section
/-! ===== making objects and rows, copying, calls, a method's entry ===== -/
/-- entry idx of own's file is the class ci, of N fields, whose objects begin with fs -/
def zNew (own : String) (idx ci N : Nat) (fs : List Value) : Prop := ∃ (C : String) (T : u_T) (ty : Nat → FieldType), vwCl[ci]? = some (C, T, N) ∧ (∀ x ∈ u_ws C T N, x ∈ zT) ∧ (∀ k, k < N → parseFieldDescriptor (T k).2.2.1 = some (ty k)) ∧ Cond.classLink own idx C ∈ zT ∧ Cond.instantiable C N ∈ zT ∧ Cond.initialized C ∈ zT ∧ (∀ j, j < N → defaultValue (ty j) = vp_V fs j) ∧ ∀ g, fs.map (zv g) = fs
section ZMAKE
variable {d : Nat} {mt : ZM} {pc k0 n0 mc ms : Nat} {ls : List (Option Value)} {st : List Value} {w : ZW} {Q : Option Value → ZW → Prop}
theorem zw_new {idx ci N : Nat} {fs : List Value} (hd : decode mt.2.1 pc = .ok (.new idx, 3)) (hN : zNew mt.1.cls idx ci N fs) (h1 : k0 + 1 ≤ mc) (h2 : n0 + N ≤ ms) (hw : w.1 < 1000000) (kk : Zw d mt (k0 + 1, n0 + N, mc, ms) (pc + 3) ls (.ref w.1 :: st) (zadd w (.inr (ci, fs))) Q) : Zw d mt (k0, n0, mc, ms) pc ls st w Q := by
  intro g p l e R s m args below meth c Qm C H locs la hR hS hL
  obtain ⟨C0, T, ty, hc, hin, hty, hcl, hinst, hini, hfs, hzz⟩ := hN
  have hts := C.2.2.2.2.1
  have e0 := C.2.2.2.2.2.2.2.1
  have hK := e0.1.1
  have hP := hR.2.2
  have hD := zl_D g w
  have hKn := hK.1 ci _ hc
  have rm := C.2.2.2.2.2.2.1
  refine W.newcK C.1 C.2.1 C.2.2.2.1 (hts _ hcl) (hts _ hinst) (hts _ hini) rfl hd (Nat.le_trans h1 rm.2.2.1) (Nat.le_trans h2 rm.2.2.2) hKn.2.1 rfl fun H1 kC hkC e1 z1 o1 => ?_
  have hk : ∀ (k : Nat) (x : Nat × va_E), (zl g w)[k]? = some x → H1[x.1]? = H[x.1]? := fun k x hx => o1 x.1 ((hP k x hx).lt)
  have hP1 : va_P g.2.2.1 vwCl (zl g w ++ [(g.1 + w.1, ze g (.inr (ci, fs)))]) H1 := (hP.kept hk).app (fun k x hx => by
    have hz : k < 1 := (List.getElem?_eq_some_iff.mp hx).1
    rw [show k = 0 by omega] at hx
    cases hx
    rw [← hR.1]
    exact ⟨_, hc, (u_born ty hts hin hKn hkC e1 hty).to (fun j hj => by rw [hfs j hj]; show vp_V fs j = vp_V (fs.map (zv g)) j; rw [hzz g])⟩)
  rw [zl_push] at hP1
  have ea : za g w.1 = H.size := by rw [za_lt hw, hR.1]
  have hst : (Value.ref w.1 :: st).map (zv g) = .ref H.size :: st.map (zv g) := by
    show Value.ref (za g w.1) :: _ = _
    rw [ea]
  have K := kk g p l e R s m args below meth c Qm C H1 locs la ⟨by rw [z1, hR.1]; rfl, hw, hP1⟩ ⟨Nat.le_trans hS.1 (by omega), fun x g1 g2 => (o1 x (Nat.lt_of_lt_of_le g1 hS.1)).trans (hS.2.1 x g1 g2), hS.2.2⟩ hL
  rw [hst] at K
  exact K
theorem zw_newa {t N : Nat} {n : Int32} {atype : ArrayType} {ty : FieldType} (hd : decode mt.2.1 pc = .ok (.newarray atype, 2)) (hty : newarray.typeOf atype = ty) (ht : t < 3) (hta : ∀ g : ZG, (ztys g)[t]? = some (g.2.2.2 t, ty)) (hv : defaultValue ty = .int 0) (hw0 : Cond.arrayClass ty ∈ zT) (hn : ¬ n < 0) (hN : n.toNatClampNeg = N) (hby : N * componentBytes ty ≤ 536870912) (h1 : k0 + 1 ≤ mc) (h2 : n0 + N ≤ ms) (hw : w.1 < 1000000) (kk : Zw d mt (k0 + 1, n0 + N, mc, ms) (pc + 2) ls (.ref w.1 :: st) (zadd w (.inl (t, N, fun _ => 0))) Q) : Zw d mt (k0, n0, mc, ms) pc ls (.int n :: st) w Q := by
  subst hty
  intro g p l e R s m args below meth c Qm C H locs la hR hS hL
  have hts := C.2.2.2.2.1
  have e0 := C.2.2.2.2.2.2.2.1
  have hK := e0.1.1
  have hP := hR.2.2
  have rm := C.2.2.2.2.2.2.1
  refine va_newaK C.1 C.2.1 (hts _ hw0) rfl hd rfl hn hN hby (Nat.le_trans h1 rm.2.2.1) (Nat.le_trans h2 rm.2.2.2) rfl fun H1 cA e1 z1 o1 hAr hNm => ?_
  have hcA : cA = g.2.2.2 t := by
    have q := (hK.2 t _ (hta g)).2
    have q2 : s.vm.findClass ("[" ++ (newarray.typeOf atype).toString) = some (g.2.2.2 t) := by
      cases atype <;> exact q
    exact Option.some.inj (hNm.symm.trans q2)
  have hk : ∀ (k : Nat) (x : Nat × va_E), (zl g w)[k]? = some x → H1[x.1]? = H[x.1]? := fun k x hx => o1 x.1 ((hP k x hx).lt)
  have hP1 : va_P g.2.2.1 vwCl (zl g w ++ [(g.1 + w.1, ze g (.inl (t, N, fun _ => 0)))]) H1 := (hP.kept hk).app (fun k x hx => by
    have hz : k < 1 := (List.getElem?_eq_some_iff.mp hx).1
    rw [show k = 0 by omega] at hx
    cases hx
    rw [← hR.1]
    show H1[H.size]? = some (vp_cell _ _)
    rw [e1, hcA, hv]
    rfl)
  rw [zl_push] at hP1
  have ea : za g w.1 = H.size := by rw [za_lt hw, hR.1]
  have hst : (Value.ref w.1 :: st).map (zv g) = .ref H.size :: st.map (zv g) := by
    show Value.ref (za g w.1) :: _ = _
    rw [ea]
  have K := kk g p l e R s m args below meth c Qm C H1 locs la ⟨by rw [z1, hR.1]; rfl, hw, hP1⟩ ⟨Nat.le_trans hS.1 (by omega), fun x g1 g2 => (o1 x (Nat.lt_of_lt_of_le g1 hS.1)).trans (hS.2.1 x g1 g2), hS.2.2⟩ hL
  rw [hst] at K
  exact K
end ZMAKE
/-- the words of a method that may be called -/
def zOk (mt : ZM) (n : Nat) : Prop := Cond.code mt.1 mt.2.1 mt.2.2.1 mt.2.2.2 ∈ zT ∧ Cond.initialized mt.1.cls ∈ zT ∧ plainName mt.1.cls = true ∧ mt.2.2.1 ≤ 40 ∧ (mt.1.cls ≠ "java/lang/invoke/MethodHandle" ∧ mt.1.cls ≠ "java/lang/invoke/VarHandle" ∧ (parseMethodDescriptor mt.1.desc).map (fun d => d.parameters.length) = some n)
def zLk (own : String) (idx : Nat) (y : MethodName) : Prop := Cond.methodLink own idx y ∈ zT ∨ ∃ host, Cond.methodLinkNest own idx y host ∈ zTN
def zVirt (mt : ZM) : Prop := Cond.instanceMethod mt.1 ∈ zT ∧ Cond.selects mt.1.cls mt.1 mt.1 ∈ zT
def zStat (mt : ZM) : Prop := Cond.static mt.1 ∈ zT
def zCtor (mt : ZM) : Prop := mt.1.name = "<init>" ∧ Cond.instanceMethod mt.1 ∈ zT ∧ mt.2.2.2 = none
theorem zRun_go {p : Program} {l : Launch} {e : Env} {R : Room} {s : State} {m : MethodId} {args : Array Value} {below : List Frame} {meth : Method} {c : Code} {H : Heap} {locs : List Loc} {cells slots mc ms pc : Nat} {Qm : State → Prop} {la : Array Slot} {st0 rest : List Value} {g : ZG} {Q : Option Value → ZW → Prop} {a : Array Value}
    (hr : va_Run p l e R s m args below meth c H locs cells slots mc ms (F0 m pc la st0) rest (zQc g Q a) (zA g)) (hS : va_S (zA g) s.heap H locs)
    (kk : ∀ (v : Option Value) (w : ZW) (H1 : Heap) (locs1 : List Loc), Q v w → zR g w H1 → va_S (zA g) s.heap H1 locs1 → W p l e R s m args below meth c H1 locs1 (cells + mc) (slots + ms) Qm (F0 m (pc + 3) la ((v.map (zv g)).toList ++ rest))) : W p l e R s m args below meth c H locs cells slots Qm (F0 m pc la st0) := by
  intro T hT X
  obtain ⟨v0, st₀, t, T', L, h0, X', hL, e1, e2, ⟨v, w, hv, hq, hR, hz, hk⟩, st⟩ := hr T hT X
  cases hv
  rw [h0] at hz hk
  obtain ⟨t2, a1, b1⟩ := kk v w T'.heap (locs ++ L) hq (by rw [e1]; exact hR)
    ⟨Nat.le_trans hS.1 (by rw [e1]; exact hz), fun q h1 h2 => by rw [e1, hk q (Nat.lt_of_lt_of_le h1 hS.1) h2]; exact hS.2.1 q h1 h2, fun q hq => by
      rcases List.mem_append.mp hq with h | h
      · exact hS.2.2 q h
      · exact hL q h⟩ T' rfl X'
  exact ⟨t2, st t2 a1, b1⟩
section ZCALL
variable {d : Nat} {mt : ZM} {pc k0 n0 mc ms : Nat} {ls : List (Option Value)} {st : List Value} {w : ZW} {Q : Option Value → ZW → Prop}
theorem zPre {g : ZG} {s : State} {H : Heap} {locs : List Loc} {as : List Value} (hE : zEnv g s) (hR : zR g w H) (hS : va_S (zA g) s.heap H locs) : PreS s H (zPc g as w) (as.map (zv g)) := ⟨zPc_blind g as w, fun U hU hW => ⟨rfl, by rw [hU]; exact hR, hE.go hU hW hS⟩⟩
theorem zroomOk {d mL : Nat} {R : Room} {c1 s1 : Nat} (h : mL ≤ 40) (hf : d + 1 ≤ R.frames) (hl : 64 * (d + 1) ≤ R.locals) : (zroom d c1 s1).frames + 1 ≤ R.frames ∧ 8 + (mL + 11) + (zroom d c1 s1).locals ≤ R.locals := ⟨hf, by show 8 + (mL + 11) + 64 * d ≤ R.locals; omega⟩
theorem zcats (g : ZG) (st : List Value) : ((st.map (zv g)).map fun v => v.category).sum = (st.map fun v => v.category).sum := by
  rw [List.map_map]
  congr 1
  apply List.map_congr_left
  intro v _
  exact zv_cat g v
theorem zBehind {g : ZG} {p : Program} {l : Launch} {e : Env} {R : Room} {s : State} {m : MethodId} {args : Array Value} {below : List Frame} {meth : Method} {c : Code} {Qm : State → Prop} {la : Array Slot} (k1 n1 : Nat) (C : zCx (d + 1) mt mc ms Q g p l e R s m args below meth c Qm) (hL : zL g ls la) (v : Option Value) (w' : ZW) (H1 : Heap) (locs1 : List Loc) (hz : Zw (d + 1) mt (k1, n1, mc, ms) (pc + 3) ls (v.toList ++ st) w' Q) (hR1 : zR g w' H1) (hS1 : va_S (zA g) s.heap H1 locs1) : W p l e R s m args below meth c H1 locs1 k1 n1 Qm (F0 m (pc + 3) la ((v.map (zv g)).toList ++ st.map (zv g))) := by
  have K := hz g p l e R s m args below meth c Qm C H1 locs1 la hR1 hS1 hL
  have es : (v.toList ++ st).map (zv g) = (v.map (zv g)).toList ++ st.map (zv g) := by cases v <;> rfl
  rw [es] at K
  exact K
theorem zw_callV {mt' : ZM} {idx n r ci mc' ms' : Nat} {as : List Value} {fs : List Value} (hd : decode mt.2.1 pc = .ok (.invokevirtual idx, 3)) (hok : zOk mt' n) (hv : zVirt mt') (hl : zLk mt.1.cls idx mt'.1) (hr : zat w r (.inr (ci, fs))) (hci : (vwCl[ci]?).map (fun q => q.1) = some mt'.1.cls) (hn : as.length = n) (hc : (st.map fun v => v.category).sum ≤ 8) (hll : ls.length = mt.2.2.1) (h1 : k0 + mc' ≤ mc) (h2 : n0 + ms' ≤ ms)
    (hM : Zm d mt' mc' ms' (.ref r :: as) w (fun v w' => Zw (d + 1) mt (k0 + mc', n0 + ms', mc, ms) (pc + 3) ls (v.toList ++ st) w' Q)) : Zw (d + 1) mt (k0, n0, mc, ms) pc ls (as.reverse ++ .ref r :: st) w Q := by
  intro g p l e R s m args below meth c Qm C H locs la hR hS hL
  have hts := C.2.2.2.2.1
  have e0 := C.2.2.2.2.2.2.2.1
  have rm := C.2.2.2.2.2.2.1
  obtain ⟨o1, o2, o3, o4, o5⟩ := hok
  have hpre := zPre (as := .ref r :: as) e0 hR hS
  have hrecv : ∃ cell : Cell, H[za g r]? = some cell ∧ cell.vm.isStatics = false ∧ s.vm.findClass mt'.1.cls = some cell.cls := by
    cases hq : vwCl[ci]? with
    | none => rw [hq] at hci; cases hci
    | some q =>
      rw [hq] at hci
      rw [← Option.some.inj hci]
      exact va_recv e0.1.1 hR.2.2 hq (hR.cell hr)
  have hstk : (as.reverse ++ .ref r :: st).map (zv g) = (as.map (zv g)).reverse ++ .ref (za g r) :: st.map (zv g) := by simp [zv]
  rw [hstk]
  have hroom : (F0 m pc la ((as.map (zv g)).reverse ++ .ref (za g r) :: st.map (zv g))).monitorRoom = 0 := rfl
  have hsz : la.size = c.maxLocals := by rw [hL.1, hll, C.2.2.1]
  rcases hl with hl | ⟨host, hl⟩
  · exact zRun_go (va_runV (As := as.map (zv g)) (rest := st.map (zv g)) (nL := c.maxLocals) ⟨C.1, C.2.1, rfl, C.2.2.2.1, hts⟩ (hM l g) ⟨callB_of n hts (zT_good o1) rfl rfl rfl (hts _ o2) (hts _ hl) o5 (zroomOk o4 rm.1 rm.2.1), hts _ hv.1, hts _ hv.2⟩ ⟨hpre.1, hrecv, hpre.2⟩ rfl (by rw [List.length_map]; exact hn) hsz rfl (by rw [hroom, zcats]; omega) hd ⟨Nat.le_trans h1 rm.2.2.1, Nat.le_trans h2 rm.2.2.2⟩) hS (zBehind (st := st) (k0 + mc') (n0 + ms') C hL)
  · exact zRun_go (va_runVN (As := as.map (zv g)) (rest := st.map (zv g)) (nL := c.maxLocals) ⟨C.1, C.2.1, rfl, C.2.2.2.1, hts⟩ (hM l g) ⟨va_cnB n hts (zT_good o1) rfl rfl rfl (e0.1.2.2 _ hl) (hts _ o2) o5 (zroomOk o4 rm.1 rm.2.1), hts _ hv.1, hts _ hv.2⟩ ⟨hpre.1, hrecv, hpre.2⟩ rfl (by rw [List.length_map]; exact hn) hsz rfl (by rw [hroom, zcats]; omega) hd ⟨Nat.le_trans h1 rm.2.2.1, Nat.le_trans h2 rm.2.2.2⟩) hS (zBehind (st := st) (k0 + mc') (n0 + ms') C hL)
theorem zw_callS {mt' : ZM} {idx n mc' ms' : Nat} {as : List Value} (hd : decode mt.2.1 pc = .ok (.invokestatic idx, 3)) (hok : zOk mt' n) (hv : zStat mt') (hl : zLk mt.1.cls idx mt'.1) (hn : as.length = n) (hc : (st.map fun v => v.category).sum ≤ 8) (hll : ls.length = mt.2.2.1) (h1 : k0 + mc' ≤ mc) (h2 : n0 + ms' ≤ ms)
    (hM : Zm d mt' mc' ms' as w (fun v w' => Zw (d + 1) mt (k0 + mc', n0 + ms', mc, ms) (pc + 3) ls (v.toList ++ st) w' Q)) : Zw (d + 1) mt (k0, n0, mc, ms) pc ls (as.reverse ++ st) w Q := by
  intro g p l e R s m args below meth c Qm C H locs la hR hS hL
  have hts := C.2.2.2.2.1
  have e0 := C.2.2.2.2.2.2.2.1
  have rm := C.2.2.2.2.2.2.1
  obtain ⟨o1, o2, o3, o4, o5⟩ := hok
  have hpre := zPre (as := as) e0 hR hS
  have hstk : (as.reverse ++ st).map (zv g) = (as.map (zv g)).reverse ++ st.map (zv g) := by simp
  rw [hstk]
  have hroom : (F0 m pc la ((as.map (zv g)).reverse ++ st.map (zv g))).monitorRoom = 0 := rfl
  have hsz : la.size = c.maxLocals := by rw [hL.1, hll, C.2.2.1]
  rcases hl with hl | ⟨host, hl⟩
  · exact zRun_go (va_runS (As := as.map (zv g)) (rest := st.map (zv g)) (nL := c.maxLocals) ⟨C.1, C.2.1, rfl, C.2.2.2.1, hts⟩ (hM l g) ⟨callB_of n hts (zT_good o1) rfl rfl rfl (hts _ o2) (hts _ hl) o5 (zroomOk o4 rm.1 rm.2.1), hts _ hv⟩ hpre rfl (by rw [List.length_map]; exact hn) hsz rfl (by rw [hroom, zcats]; omega) hd ⟨Nat.le_trans h1 rm.2.2.1, Nat.le_trans h2 rm.2.2.2⟩) hS (zBehind (st := st) (k0 + mc') (n0 + ms') C hL)
  · exact zRun_go (va_runSN (As := as.map (zv g)) (rest := st.map (zv g)) (nL := c.maxLocals) ⟨C.1, C.2.1, rfl, C.2.2.2.1, hts⟩ (hM l g) ⟨va_cnB n hts (zT_good o1) rfl rfl rfl (e0.1.2.2 _ hl) (hts _ o2) o5 (zroomOk o4 rm.1 rm.2.1), hts _ hv, trivial⟩ hpre rfl (by rw [List.length_map]; exact hn) hsz rfl (by rw [hroom, zcats]; omega) hd ⟨Nat.le_trans h1 rm.2.2.1, Nat.le_trans h2 rm.2.2.2⟩) hS (zBehind (st := st) (k0 + mc') (n0 + ms') C hL)
theorem zw_callI {mt' : ZM} {idx n r mc' ms' : Nat} {as : List Value} (hd : decode mt.2.1 pc = .ok (.invokespecial idx, 3)) (hok : zOk mt' n) (hv : zCtor mt') (hl : zLk mt.1.cls idx mt'.1) (hn : as.length = n) (hc : (st.map fun v => v.category).sum ≤ 8) (hll : ls.length = mt.2.2.1) (h1 : k0 + mc' ≤ mc) (h2 : n0 + ms' ≤ ms)
    (hM : Zm d mt' mc' ms' (.ref r :: as) w (fun v w' => Zw (d + 1) mt (k0 + mc', n0 + ms', mc, ms) (pc + 3) ls (v.toList ++ st) w' Q)) : Zw (d + 1) mt (k0, n0, mc, ms) pc ls (as.reverse ++ .ref r :: st) w Q := by
  intro g p l e R s m args below meth c Qm C H locs la hR hS hL
  have hts := C.2.2.2.2.1
  have e0 := C.2.2.2.2.2.2.2.1
  have rm := C.2.2.2.2.2.2.1
  obtain ⟨y, bc, mL, rt⟩ := mt'
  obtain ⟨hy1, hv, hnone⟩ := hv
  cases hnone
  obtain ⟨o1, o2, o3, o4, o5⟩ := hok
  have hpre := zPre (as := .ref r :: as) e0 hR hS
  have hstk : (as.reverse ++ .ref r :: st).map (zv g) = (as.map (zv g)).reverse ++ .ref (za g r) :: st.map (zv g) := by simp [zv]
  rw [hstk]
  have hroom : (F0 m pc la ((as.map (zv g)).reverse ++ .ref (za g r) :: st.map (zv g))).monitorRoom = 0 := rfl
  have hsz : la.size = c.maxLocals := by rw [hL.1, hll, C.2.2.1]
  rcases hl with hl | ⟨host, hl⟩
  · exact zRun_go (va_runI (As := as.map (zv g)) (rest := st.map (zv g)) (nL := c.maxLocals) ⟨C.1, C.2.1, rfl, C.2.2.2.1, hts⟩ (hM l g) ⟨callB_of n hts (zT_good o1) rfl rfl rfl (hts _ o2) (hts _ hl) o5 (zroomOk o4 rm.1 rm.2.1), hy1, hts _ hv⟩ hpre rfl (by rw [List.length_map]; exact hn) hsz rfl (by rw [hroom, zcats]; omega) hd ⟨Nat.le_trans h1 rm.2.2.1, Nat.le_trans h2 rm.2.2.2⟩) hS (zBehind (st := st) (k0 + mc') (n0 + ms') C hL)
  · exact zRun_go (va_runIN (As := as.map (zv g)) (rest := st.map (zv g)) (nL := c.maxLocals) ⟨C.1, C.2.1, rfl, C.2.2.2.1, hts⟩ (hM l g) ⟨va_cnB n hts (zT_good o1) rfl rfl rfl (e0.1.2.2 _ hl) (hts _ o2) o5 (zroomOk o4 rm.1 rm.2.1), hy1, hts _ hv⟩ hpre rfl (by rw [List.length_map]; exact hn) hsz rfl (by rw [hroom, zcats]; omega) hd ⟨Nat.le_trans h1 rm.2.2.1, Nat.le_trans h2 rm.2.2.2⟩) hS (zBehind (st := st) (k0 + mc') (n0 + ms') C hL)
theorem zw_objInit {cn : ZN} {idx r : Nat} (hd : decode mt.2.1 pc = .ok (.invokespecial idx, 3)) (hl : Cond.methodLink mt.1.cls idx Lib.objectInit ∈ zT) (hi : Cond.instanceMethod Lib.objectInit ∈ zT) (hcd : Cond.code Lib.objectInit ⟨#[0xb1]⟩ 1 none ∈ zT) (hll : ls.length = mt.2.2.1) (hc : (st.map fun v => v.category).sum ≤ 8) (kk : Zw (d + 1) mt cn (pc + 3) ls st w Q) : Zw (d + 1) mt cn pc ls (.ref r :: st) w Q := by
  intro g p l e R s m args below meth c Qm C H locs la hR hS hL
  have hts := C.2.2.2.2.1
  have rm := C.2.2.2.2.2.2.1
  have hsz : la.size = c.maxLocals := by rw [hL.1, hll, C.2.2.1]
  refine W.objInit C.1 C.2.1 C.2.2.2.1 (hts _ hl) (hts _ hi) (hts _ hcd) rfl hsz (a := za g r) (rest := st.map (zv g)) rfl hd (by omega) ?_ (kk g p l e R s m args below meth c Qm C H locs la hR hS hL)
  show 2 * 0 + ((st.map (zv g)).map fun v => v.category).sum + 12 ≤ R.locals
  rw [zcats]
  omega
theorem zw_copy {cn : ZN} {idx a0 a1 x0 x1 : Nat} {f f1 : Nat → Int32} {sp dp n : Int32} (hd : decode mt.2.1 pc = .ok (.invokestatic idx, 3)) (hl : Cond.methodLink mt.1.cls idx arraycopyName ∈ zT) (hna : Cond.native arraycopyName ∈ zT) (hst : Cond.static arraycopyName ∈ zT) (hin : Cond.initialized "java/lang/System" ∈ zT) (h0 : zat w a0 (.inl (0, x0, f))) (h1 : zat w a1 (.inl (0, x1, f1))) (q1 : ¬ sp < 0) (q2 : ¬ dp < 0) (q3 : ¬ n < 0) (q4 : sp.toNatClampNeg + n.toNatClampNeg ≤ x0) (q5 : dp.toNatClampNeg + n.toNatClampNeg ≤ x1) (hll : ls.length = mt.2.2.1) (hc : (st.map fun v => v.category).sum ≤ 8)
    (kk : Zw (d + 1) mt cn (pc + 3) ls st (zput w a1 (.inl (0, x1, va_cpy f f1 sp.toNatClampNeg dp.toNatClampNeg n.toNatClampNeg))) Q) : Zw (d + 1) mt cn pc ls (.int n :: .int dp :: .ref a1 :: .int sp :: .ref a0 :: st) w Q := by
  intro g p l e R s m args below meth c Qm C H locs la hR hS hL
  have hts := C.2.2.2.2.1
  have rm := C.2.2.2.2.2.2.1
  have hK := C.2.2.2.2.2.2.2.1.1.1
  have hsz : la.size = c.maxLocals := by rw [hL.1, hll, C.2.2.1]
  have nn : ∀ z : Int32, ¬ z < 0 → z.toInt = (z.toNatClampNeg : Int) := by
    intro z hz
    have hz0 : (0 : Int) ≤ z.toInt := by
      have := Int32.not_lt.mp hz
      simpa using Int32.le_iff_toInt_le.mp this
    show z.toInt = ((z.toInt.toNat : Nat) : Int)
    omega
  intro T hT X
  have hD := zl_D g w
  have hc0 : H[za g a0]? = some (vp_cell (g.2.2.2 0) (x0, .inl f)) := hR.2.2 a0 _ (hR.cell h0)
  have hc1 : H[za g a1]? = some (vp_cell (g.2.2.2 0) (x1, .inl f1)) := hR.2.2 a1 _ (hR.cell h1)
  obtain ⟨-, k0, hk0, cm0, hkk0⟩ := (hK.2 0 _ rfl).1 x0 (fun j => .int (f j))
  obtain ⟨-, k1, hk1, cm1, hkk1⟩ := (hK.2 0 _ rfl).1 x1 (fun j => .int (f1 j))
  obtain ⟨vm', X', step⟩ := X.arraycopy C.1 C.2.2.2.1 (hts _ hl) (hts _ hna) (hts _ hst) (hts _ hin) (src := za g a0) (dst := za g a1) (cs := vp_cell (g.2.2.2 0) (x0, .inl f)) (cd := vp_cell (g.2.2.2 0) (x1, .inl f1)) (srcPos := sp) (destPos := dp) (n := n) (by rw [hT]; exact hc0) (by rw [hT]; exact hc1)
    (fun _ h => by cases h) (fun _ h => by cases h) (fun h => by cases h) (fun h => by cases h) hk0 hk1 hkk0 hkk1 (by simp [refKind]) q1 q2 q3
    (by rw [nn sp q1, nn n q3]; show ¬ _ > ((arrV (g.2.2.2 0) x0 (fun j => .int (f j))).slots.size : Int); rw [arrV_size]; omega)
    (by rw [nn dp q2, nn n q3]; show ¬ _ > ((arrV (g.2.2.2 0) x1 (fun j => .int (f1 j))).slots.size : Int); rw [arrV_size]; omega)
    (fun vm₁ _ i hi => by
      have e : (vp_cell (g.2.2.2 0) (x0, .inl f)).slots.getD (sp.toNatClampNeg + i) .null = .int (f (sp.toNatClampNeg + i)) := by
        show (arrV (g.2.2.2 0) x0 (fun j => .int (f j))).slots.getD _ _ = _
        rw [Array.getD_eq_getD_getElem?, arrV_read _ _ (by omega)]
        rfl
      refine ⟨?_, ?_⟩
      · rw [e]
        rfl
      · rw [e]
        exact trivial)
    (g := F0 m pc la (.int n :: .int dp :: .ref (za g a1) :: .int sp :: .ref (za g a0) :: st.map (zv g))) rfl hsz (rest := st.map (zv g)) rfl (by rw [C.2.1]; exact hd) (by omega) (by
      show 2 * 0 + _ + _ ≤ _
      rw [zcats]
      have : nativeFrameWords "java/lang/System" "arraycopy" 5 ≤ 40 := by decide +kernel
      omega)
  have e1 : copied (vp_cell (g.2.2.2 0) (x0, .inl f)) (vp_cell (g.2.2.2 0) (x1, .inl f1)) sp dp n = vp_cell (g.2.2.2 0) (x1, .inl (va_cpy f f1 sp.toNatClampNeg dp.toNatClampNeg n.toNatClampNeg)) := va_copied (fun z => .int z) (g.2.2.2 0) (g.2.2.2 0) f f1 q4
  rw [e1] at X' step
  have hl1 : za g a1 < H.size := (Array.getElem?_eq_some_iff.mp hc1).1
  generalize hN : vp_cell (g.2.2.2 0) (x1, .inl (va_cpy f f1 sp.toNatClampNeg dp.toNatClampNeg n.toNatClampNeg)) = NC at X' step
  have hheap : ((T.setVm vm').setCell (za g a1) NC).heap = H.setIfInBounds (za g a1) NC := by rw [← hT]; rfl
  have oq : ∀ q : Nat, q ≠ za g a1 → (H.setIfInBounds (za g a1) NC)[q]? = H[q]? := fun q hq => by simp [Array.getElem?_setIfInBounds, Ne.symm hq]
  have hP' : va_P g.2.2.1 vwCl ((zl g w).set a1 (za g a1, ze g (.inl (0, x1, va_cpy f f1 sp.toNatClampNeg dp.toNatClampNeg n.toNatClampNeg)))) (H.setIfInBounds (za g a1) NC) := hR.2.2.set hD (hR.cell h1) (by
    show (H.setIfInBounds (za g a1) NC)[za g a1]? = some (vp_cell _ _)
    rw [← hN]
    simp [Array.getElem?_setIfInBounds, hl1]) oq
  obtain ⟨t, a1', b1⟩ := kk g p l e R s m args below meth c Qm C (H.setIfInBounds (za g a1) NC) _ la (hR.put h1 (by simp) hP') ⟨by simp; exact hS.1, fun q g1 g2 => by
      rw [oq q (fun e => g2 (by rw [e]; exact hD.2 a1 _ (hR.cell h1)))]
      exact hS.2.1 q g1 g2, fun q hq => by
      rcases List.mem_append.mp hq with h | h
      · exact hS.2.2 q h
      · obtain ⟨z, -, hz⟩ := List.mem_map.mp h
        rw [← hz]
        exact hD.2 a1 _ (hR.cell h1)⟩ hL _ hheap X'
  exact ⟨t, step t a1', b1⟩
theorem zw_max {idx : Nat} {x y : Int32} (hd : decode mt.2.1 pc = .ok (.invokestatic idx, 3)) (hl : Cond.methodLink mt.1.cls idx Lib.Math.max.name ∈ zT) (hs : Cond.static Lib.Math.max.name ∈ zT) (hi : Cond.initialized "java/lang/Math" ∈ zT) (hcd : Cond.code Lib.Math.max.name Lib.Math.max.code 2 (some .int) ∈ zT) (hll : ls.length = mt.2.2.1) (hc : (st.map fun v => v.category).sum ≤ 8) (h1 : k0 ≤ mc) (h2 : n0 ≤ ms) (kk : Zw (d + 1) mt (k0, n0, mc, ms) (pc + 3) ls (.int (if x < y then y else x) :: st) w Q) : Zw (d + 1) mt (k0, n0, mc, ms) pc ls (.int y :: .int x :: st) w Q := by
  intro g p l e R s m args below meth c Qm C H locs la hR hS hL
  have hts := C.2.2.2.2.1
  have rm := C.2.2.2.2.2.2.1
  have hsz : c.maxLocals = la.size := by rw [hL.1, hll, C.2.2.1]
  exact va_mmax C.1 C.2.1 hsz C.2.2.2.1 (hts _ hl) (hts _ hs) (hts _ hi) (hts _ hcd) (by omega) (by rw [zcats]; omega) (Nat.le_trans h1 rm.2.2.1) (Nat.le_trans h2 rm.2.2.2) hd (kk g p l e R s m args below meth c Qm C H locs la hR hS hL)
theorem zw_min {idx : Nat} {x y : Int32} (hd : decode mt.2.1 pc = .ok (.invokestatic idx, 3)) (hl : Cond.methodLink mt.1.cls idx Lib.Math.min.name ∈ zT) (hs : Cond.static Lib.Math.min.name ∈ zT) (hi : Cond.initialized "java/lang/Math" ∈ zT) (hcd : Cond.code Lib.Math.min.name Lib.Math.min.code 2 (some .int) ∈ zT) (hll : ls.length = mt.2.2.1) (hc : (st.map fun v => v.category).sum ≤ 8) (h1 : k0 ≤ mc) (h2 : n0 ≤ ms) (kk : Zw (d + 1) mt (k0, n0, mc, ms) (pc + 3) ls (.int (if y < x then y else x) :: st) w Q) : Zw (d + 1) mt (k0, n0, mc, ms) pc ls (.int y :: .int x :: st) w Q := by
  intro g p l e R s m args below meth c Qm C H locs la hR hS hL
  have hts := C.2.2.2.2.1
  have rm := C.2.2.2.2.2.2.1
  have hsz : c.maxLocals = la.size := by rw [hL.1, hll, C.2.2.1]
  exact va_mmin C.1 C.2.1 hsz C.2.2.2.1 (hts _ hl) (hts _ hs) (hts _ hi) (hts _ hcd) (by omega) (by rw [zcats]; omega) (Nat.le_trans h1 rm.2.2.1) (Nat.le_trans h2 rm.2.2.2) hd (kk g p l e R s m args below meth c Qm C H locs la hR hS hL)
/-- a method's entry -/
def zent (as : List Value) (n : Nat) : List (Option Value) := match as with
  | [] => List.replicate n none
  | v :: vs => if v.category = 2 then some v :: none :: zent vs (n - 2) else some v :: zent vs (n - 1)
theorem zent_len : ∀ (as : List Value) (n : Nat), (lg_sl as).length ≤ n → (zent as n).length = n
  | [], n, _ => by simp [zent]
  | v :: vs, n, h => by
    unfold zent
    have e : lg_sl (v :: vs) = (if v.category = 2 then [.val v, .second] else [.val v]) ++ lg_sl vs := rfl
    rw [e, List.length_append] at h
    by_cases hc : v.category = 2
    · rw [if_pos hc] at h ⊢
      simp only [List.length_cons, List.length_nil] at h ⊢
      rw [zent_len vs (n - 2) (by omega)]
      omega
    · rw [if_neg hc] at h ⊢
      simp only [List.length_cons, List.length_nil] at h ⊢
      rw [zent_len vs (n - 1) (by omega)]
      omega
theorem zent_in (g : ZG) : ∀ (as : List Value) (n off i : Nat) (v : Value), (zent as n)[i]? = some (some v) → (off + i, zv g v) ∈ lv_args off (as.map (zv g))
  | [], n, off, i, v, h => by
    unfold zent at h
    rw [List.getElem?_replicate] at h
    split at h <;> cases h
  | u :: vs, n, off, i, v, h => by
    unfold zent at h
    show (off + i, zv g v) ∈ (off, zv g u) :: lv_args (if (zv g u).category = 2 then off + 2 else off + 1) (vs.map (zv g))
    rw [zv_cat]
    by_cases hc : u.category = 2
    · rw [if_pos hc] at h ⊢
      match i, h with
      | 0, h => cases h; exact List.mem_cons_self
      | 1, h => cases h
      | i + 2, h =>
        refine List.mem_cons_of_mem _ ?_
        have := zent_in g vs (n - 2) (off + 2) i v h
        rwa [show off + 2 + i = off + (i + 2) by omega] at this
    · rw [if_neg hc] at h ⊢
      match i, h with
      | 0, h => cases h; exact List.mem_cons_self
      | i + 1, h =>
        refine List.mem_cons_of_mem _ ?_
        have := zent_in g vs (n - 1) (off + 1) i v h
        rwa [show off + 1 + i = off + (i + 1) by omega] at this
theorem lg_sl_zv (g : ZG) : ∀ as : List Value, (lg_sl (as.map (zv g))).length = (lg_sl as).length
  | [] => rfl
  | v :: vs => by
    have e : ∀ (u : Value) (us : List Value), (lg_sl (u :: us)).length = (if u.category = 2 then 2 else 1) + (lg_sl us).length := by
      intro u us
      show ((if u.category = 2 then [Slot.val u, .second] else [Slot.val u]) ++ lg_sl us).length = _
      rw [List.length_append]
      split <;> rfl
    rw [List.map_cons, e, e, zv_cat, lg_sl_zv g vs]
theorem zm_intro {d : Nat} {mt : ZM} {mc ms : Nat} {as : List Value} {w : ZW} {Q : Option Value → ZW → Prop} {n : Nat} (ls : List (Option Value)) (hok : zOk mt n) (hw : (lg_sl as).length ≤ mt.2.2.1) (hls : zent as mt.2.2.1 = ls) (h : Zw d mt (0, 0, mc, ms) 0 ls [] w Q) : Zm d mt mc ms as w Q := by
  subst hls
  intro l g
  refine Met.ofW (cc := mt.2.1) (maxL := mt.2.2.1) (ret := mt.2.2.2) hok.2.2.1 rfl ?_
  intro p e s m args below meth c s₁ B hml hv
  obtain ⟨rfl, hR, hE⟩ := hv
  have hts := atoms_spec (ws := Cond.code mt.1 mt.2.1 mt.2.2.1 mt.2.2.2 :: zT) B.pre
  have hr := B.returns
  have hlocks := B.notSynchronized
  have hl := lv_entry (as.map (zv g)) (n := mt.2.2.1) (by rw [lg_sl_zv]; exact hw)
  rw [lg_entry_eq]
  generalize (lg_sl (as.map (zv g)) ++ List.replicate (mt.2.2.1 - (lg_sl (as.map (zv g))).length) Slot.unset).toArray = la at hl ⊢
  have hL : zL g (zent as mt.2.2.1) la := ⟨by rw [hl.1, zent_len as _ hw], hl.2.1, fun i v hi => by
    have := hl.2.2 _ (zent_in g as _ 0 i v hi)
    simpa using this⟩
  refine h g p l e _ s m _ below meth c (MQ below (zQc g Q) (as.map (zv g)).toArray s mc ms (zA g)) ⟨B.exec, B.bytes, hml, findClass_of_methodNamed B.named, fun w hw => hts w (List.mem_cons_of_mem _ hw), (name_of_methodNamed B.named B.method).1, ⟨Nat.le_refl _, Nat.le_refl _, Nat.le_refl _, Nat.le_refl _⟩, hE, ?_⟩ s.heap [] la hR va_S.rf hL
  intro v w' H locs pc ls' ins hQ hret hdg hR' hS'
  have hfin : ∀ t : State, t.heap = H → s.WarmedH t.vm → zQc g Q (as.map (zv g)).toArray s (.returned (v.map (zv g))) t := fun t ht _ => ⟨v, w', rfl, hQ, by rw [ht]; exact hR', hS'.F ht⟩
  rcases hret with ⟨rfl, x, ty, rfl, hrt, hn⟩ | ⟨rfl, x, rfl, hrt⟩ | ⟨rfl, a, nm, rfl, hrt⟩ | ⟨rfl, rfl, hrt⟩
  · exact W.zret (ty := ty) B.exec B.bytes (hr.trans hrt) hn hfin hS'.2.2 hdg hlocks
  · exact W.lret B.exec B.bytes (hr.trans hrt) hfin hS'.2.2 hdg hlocks
  · exact W.aret B.exec B.bytes (hr.trans hrt) (Or.inl ⟨nm, rfl⟩) (Or.inr ⟨_, rfl⟩) hfin hS'.2.2 hdg hlocks
  · exact W.vret B.exec B.bytes (hr.trans hrt) hfin hS'.2.2 hdg hlocks
end ZCALL
end
section
/-! ===== what the tables say of each method, field and call ===== -/
set_option maxRecDepth 20000 in
theorem uX0 : ∀ x ∈ u_ws RX0 TX0 3, x ∈ zT := by decide +kernel
set_option maxRecDepth 20000 in
theorem uX1 : ∀ x ∈ u_ws RX1 TX1 6, x ∈ zT := by decide +kernel
set_option maxRecDepth 20000 in
theorem uX2 : ∀ x ∈ u_ws RX2 TX2 9, x ∈ zT := by decide +kernel
set_option maxRecDepth 20000 in
theorem uX3 : ∀ x ∈ u_ws RX3 TX3 2, x ∈ zT := by decide +kernel
set_option maxRecDepth 20000 in
theorem uX4 : ∀ x ∈ u_ws RX4 TX4 5, x ∈ zT := by decide +kernel
set_option maxRecDepth 20000 in
theorem uX5 : ∀ x ∈ u_ws RX5 TX5 2, x ∈ zT := by decide +kernel
set_option maxRecDepth 20000 in
theorem uX6 : ∀ x ∈ u_ws RX6 TX6 4, x ∈ zT := by decide +kernel
set_option maxRecDepth 20000 in
theorem uX7 : ∀ x ∈ u_ws RX7 TX7 8, x ∈ zT := by decide +kernel
set_option maxRecDepth 20000 in
theorem uX8 : ∀ x ∈ u_ws RX8 TX8 14, x ∈ zT := by decide +kernel
set_option maxRecDepth 20000 in
theorem uX9 : ∀ x ∈ u_ws RX9 TX9 24, x ∈ zT := by decide +kernel
set_option maxRecDepth 20000 in
theorem iniJ0 : Cond.initialized RJ0 ∈ zT := zT_of 90 rfl rfl
set_option maxRecDepth 20000 in
theorem iniJ1 : Cond.initialized RJ1 ∈ zT := zT_of 91 rfl rfl
set_option maxRecDepth 20000 in
theorem iniJ2 : Cond.initialized RJ2 ∈ zT := zT_of 93 rfl rfl
set_option maxRecDepth 20000 in
theorem iniJ3 : Cond.initialized RJ3 ∈ zT := zT_of 92 rfl rfl
set_option maxRecDepth 20000 in
theorem iniJ6 : Cond.initialized RJ6 ∈ zT := zT_of 94 rfl rfl
set_option maxRecDepth 20000 in
theorem iniJ7 : Cond.initialized RJ7 ∈ zT := zT_of 95 rfl rfl
set_option maxRecDepth 20000 in
theorem iniJ9 : Cond.initialized RJ9 ∈ zT := zT_of 81 rfl rfl
set_option maxRecDepth 20000 in
theorem iniX0 : Cond.initialized RX0 ∈ zT := zT_of 84 rfl rfl
set_option maxRecDepth 20000 in
theorem iniX1 : Cond.initialized RX1 ∈ zT := zT_of 79 rfl rfl
set_option maxRecDepth 20000 in
theorem iniX2 : Cond.initialized RX2 ∈ zT := zT_of 86 rfl rfl
set_option maxRecDepth 20000 in
theorem iniX3 : Cond.initialized RX3 ∈ zT := zT_of 87 rfl rfl
set_option maxRecDepth 20000 in
theorem iniX4 : Cond.initialized RX4 ∈ zT := zT_of 83 rfl rfl
set_option maxRecDepth 20000 in
theorem iniX5 : Cond.initialized RX5 ∈ zT := zT_of 85 rfl rfl
set_option maxRecDepth 20000 in
theorem iniX6 : Cond.initialized RX6 ∈ zT := zT_of 80 rfl rfl
set_option maxRecDepth 20000 in
theorem iniX7 : Cond.initialized RX7 ∈ zT := zT_of 82 rfl rfl
set_option maxRecDepth 20000 in
theorem iniX8 : Cond.initialized RX8 ∈ zT := zT_of 78 rfl rfl
set_option maxRecDepth 20000 in
theorem iniX9 : Cond.initialized RX9 ∈ zT := zT_of 88 rfl rfl
abbrev mX8_init : ZM := (yX8_init, cX8_init, 1, none)
set_option maxRecDepth 20000 in
theorem oX8_init : zOk mX8_init 0 := ⟨zT_of 100 rfl rfl, iniX8, by decide +kernel, by decide +kernel, by decide +kernel⟩
set_option maxRecDepth 20000 in
theorem kX8_init : zCtor mX8_init := ⟨rfl, zT_of 99 rfl rfl, rfl⟩
abbrev mX1_init : ZM := (yX1_init, cX1_init, 1, none)
set_option maxRecDepth 20000 in
theorem oX1_init : zOk mX1_init 0 := ⟨zT_of 108 rfl rfl, iniX1, by decide +kernel, by decide +kernel, by decide +kernel⟩
set_option maxRecDepth 20000 in
theorem kX1_init : zCtor mX1_init := ⟨rfl, zT_of 107 rfl rfl, rfl⟩
abbrev mX6_init : ZM := (yX6_init, cX6_init, 3, none)
set_option maxRecDepth 20000 in
theorem oX6_init : zOk mX6_init 2 := ⟨zT_of 114 rfl rfl, iniX6, by decide +kernel, by decide +kernel, by decide +kernel⟩
set_option maxRecDepth 20000 in
theorem kX6_init : zCtor mX6_init := ⟨rfl, zT_of 113 rfl rfl, rfl⟩
set_option maxRecDepth 20000 in
theorem w_code_max : Cond.code Lib.Math.max.name Lib.Math.max.code 2 (some .int) ∈ zT := zT_of 118 rfl rfl
set_option maxRecDepth 20000 in
theorem w_stat_max : Cond.static Lib.Math.max.name ∈ zT := zT_of 117 rfl rfl
abbrev mX7_init : ZM := (yX7_init, cX7_init, 1, none)
set_option maxRecDepth 20000 in
theorem oX7_init : zOk mX7_init 0 := ⟨zT_of 165 rfl rfl, iniX7, by decide +kernel, by decide +kernel, by decide +kernel⟩
set_option maxRecDepth 20000 in
theorem kX7_init : zCtor mX7_init := ⟨rfl, zT_of 164 rfl rfl, rfl⟩
abbrev mX4_init : ZM := (yX4_init, cX4_init, 1, none)
set_option maxRecDepth 20000 in
theorem oX4_init : zOk mX4_init 0 := ⟨zT_of 197 rfl rfl, iniX4, by decide +kernel, by decide +kernel, by decide +kernel⟩
set_option maxRecDepth 20000 in
theorem kX4_init : zCtor mX4_init := ⟨rfl, zT_of 196 rfl rfl, rfl⟩
abbrev mX0_init : ZM := (yX0_init, cX0_init, 1, none)
set_option maxRecDepth 20000 in
theorem oX0_init : zOk mX0_init 0 := ⟨zT_of 219 rfl rfl, iniX0, by decide +kernel, by decide +kernel, by decide +kernel⟩
set_option maxRecDepth 20000 in
theorem kX0_init : zCtor mX0_init := ⟨rfl, zT_of 218 rfl rfl, rfl⟩
abbrev mX5_init : ZM := (yX5_init, cX5_init, 1, none)
set_option maxRecDepth 20000 in
theorem oX5_init : zOk mX5_init 0 := ⟨zT_of 236 rfl rfl, iniX5, by decide +kernel, by decide +kernel, by decide +kernel⟩
set_option maxRecDepth 20000 in
theorem kX5_init : zCtor mX5_init := ⟨rfl, zT_of 235 rfl rfl, rfl⟩
abbrev mX2_init : ZM := (yX2_init, cX2_init, 1, none)
set_option maxRecDepth 20000 in
theorem oX2_init : zOk mX2_init 0 := ⟨zT_of 249 rfl rfl, iniX2, by decide +kernel, by decide +kernel, by decide +kernel⟩
set_option maxRecDepth 20000 in
theorem kX2_init : zCtor mX2_init := ⟨rfl, zT_of 248 rfl rfl, rfl⟩
abbrev mX3_init : ZM := (yX3_init, cX3_init, 1, none)
set_option maxRecDepth 20000 in
theorem oX3_init : zOk mX3_init 0 := ⟨zT_of 283 rfl rfl, iniX3, by decide +kernel, by decide +kernel, by decide +kernel⟩
set_option maxRecDepth 20000 in
theorem kX3_init : zCtor mX3_init := ⟨rfl, zT_of 282 rfl rfl, rfl⟩
abbrev mX8_box : ZM := (yX8_box, cX8_box, 4, some (.int))
set_option maxRecDepth 20000 in
theorem oX8_box : zOk mX8_box 3 := ⟨zT_of 340 rfl rfl, iniX8, by decide +kernel, by decide +kernel, by decide +kernel⟩
set_option maxRecDepth 20000 in
theorem kX8_box : zVirt mX8_box := ⟨zT_of 338 rfl rfl, zT_of 339 rfl rfl⟩
abbrev mX1_addBox : ZM := (yX1_addBox, cX1_addBox, 5, some (.int))
set_option maxRecDepth 20000 in
theorem oX1_addBox : zOk mX1_addBox 3 := ⟨zT_of 344 rfl rfl, iniX1, by decide +kernel, by decide +kernel, by decide +kernel⟩
set_option maxRecDepth 20000 in
theorem kX1_addBox : zVirt mX1_addBox := ⟨zT_of 342 rfl rfl, zT_of 343 rfl rfl⟩
abbrev mX1_isFormAndSize : ZM := (yX1_isFormAndSize, cX1_isFormAndSize, 2, some (.boolean))
set_option maxRecDepth 20000 in
theorem oX1_isFormAndSize : zOk mX1_isFormAndSize 2 := ⟨zT_of 347 rfl rfl, iniX1, by decide +kernel, by decide +kernel, by decide +kernel⟩
set_option maxRecDepth 20000 in
theorem kX1_isFormAndSize : zStat mX1_isFormAndSize := zT_of 346 rfl rfl
abbrev mX8_within : ZM := (yX8_within, cX8_within, 3, some (.boolean))
set_option maxRecDepth 20000 in
theorem oX8_within : zOk mX8_within 3 := ⟨zT_of 350 rfl rfl, iniX8, by decide +kernel, by decide +kernel, by decide +kernel⟩
set_option maxRecDepth 20000 in
theorem kX8_within : zStat mX8_within := zT_of 349 rfl rfl
abbrev mX6_add : ZM := (yX6_add, cX6_add, 5, some (.int))
set_option maxRecDepth 20000 in
theorem oX6_add : zOk mX6_add 3 := ⟨zT_of 354 rfl rfl, iniX6, by decide +kernel, by decide +kernel, by decide +kernel⟩
set_option maxRecDepth 20000 in
theorem kX6_add : zVirt mX6_add := ⟨zT_of 352 rfl rfl, zT_of 353 rfl rfl⟩
abbrev mX6_change : ZM := (yX6_change, cX6_change, 4, none)
set_option maxRecDepth 20000 in
theorem oX6_change : zOk mX6_change 3 := ⟨zT_of 358 rfl rfl, iniX6, by decide +kernel, by decide +kernel, by decide +kernel⟩
set_option maxRecDepth 20000 in
theorem kX6_change : zVirt mX6_change := ⟨zT_of 356 rfl rfl, zT_of 357 rfl rfl⟩
abbrev mX6_isCell : ZM := (yX6_isCell, cX6_isCell, 3, some (.boolean))
set_option maxRecDepth 20000 in
theorem oX6_isCell : zOk mX6_isCell 2 := ⟨zT_of 362 rfl rfl, iniX6, by decide +kernel, by decide +kernel, by decide +kernel⟩
set_option maxRecDepth 20000 in
theorem kX6_isCell : zVirt mX6_isCell := ⟨zT_of 361 rfl rfl, zT_of 0 rfl rfl⟩
abbrev mX6_drop : ZM := (yX6_drop, cX6_drop, 2, some (.int))
set_option maxRecDepth 20000 in
theorem oX6_drop : zOk mX6_drop 0 := ⟨zT_of 367 rfl rfl, iniX6, by decide +kernel, by decide +kernel, by decide +kernel⟩
set_option maxRecDepth 20000 in
theorem kX6_drop : zVirt mX6_drop := ⟨zT_of 365 rfl rfl, zT_of 366 rfl rfl⟩
abbrev mX8_told : ZM := (yX8_told, cX8_told, 2, some (.int))
set_option maxRecDepth 20000 in
theorem oX8_told : zOk mX8_told 1 := ⟨zT_of 371 rfl rfl, iniX8, by decide +kernel, by decide +kernel, by decide +kernel⟩
set_option maxRecDepth 20000 in
theorem kX8_told : zVirt mX8_told := ⟨zT_of 370 rfl rfl, zT_of 1 rfl rfl⟩
abbrev mX8_lid : ZM := (yX8_lid, cX8_lid, 4, some (.int))
set_option maxRecDepth 20000 in
theorem oX8_lid : zOk mX8_lid 3 := ⟨zT_of 375 rfl rfl, iniX8, by decide +kernel, by decide +kernel, by decide +kernel⟩
set_option maxRecDepth 20000 in
theorem kX8_lid : zVirt mX8_lid := ⟨zT_of 373 rfl rfl, zT_of 374 rfl rfl⟩
abbrev mX1_addLid : ZM := (yX1_addLid, cX1_addLid, 5, some (.int))
set_option maxRecDepth 20000 in
theorem oX1_addLid : zOk mX1_addLid 3 := ⟨zT_of 379 rfl rfl, iniX1, by decide +kernel, by decide +kernel, by decide +kernel⟩
set_option maxRecDepth 20000 in
theorem kX1_addLid : zVirt mX1_addLid := ⟨zT_of 377 rfl rfl, zT_of 378 rfl rfl⟩
abbrev mX1_isKind : ZM := (yX1_isKind, cX1_isKind, 1, some (.boolean))
set_option maxRecDepth 20000 in
theorem oX1_isKind : zOk mX1_isKind 1 := ⟨zT_of 382 rfl rfl, iniX1, by decide +kernel, by decide +kernel, by decide +kernel⟩
set_option maxRecDepth 20000 in
theorem kX1_isKind : zStat mX1_isKind := zT_of 381 rfl rfl
abbrev mX8_put : ZM := (yX8_put, cX8_put, 3, some (.int))
set_option maxRecDepth 20000 in
theorem oX8_put : zOk mX8_put 2 := ⟨zT_of 386 rfl rfl, iniX8, by decide +kernel, by decide +kernel, by decide +kernel⟩
set_option maxRecDepth 20000 in
theorem kX8_put : zVirt mX8_put := ⟨zT_of 384 rfl rfl, zT_of 385 rfl rfl⟩
abbrev mX1_putOn : ZM := (yX1_putOn, cX1_putOn, 3, some (.int))
set_option maxRecDepth 20000 in
theorem oX1_putOn : zOk mX1_putOn 2 := ⟨zT_of 390 rfl rfl, iniX1, by decide +kernel, by decide +kernel, by decide +kernel⟩
set_option maxRecDepth 20000 in
theorem kX1_putOn : zVirt mX1_putOn := ⟨zT_of 388 rfl rfl, zT_of 389 rfl rfl⟩
abbrev mX6_contains : ZM := (yX6_contains, cX6_contains, 2, some (.boolean))
set_option maxRecDepth 20000 in
theorem oX6_contains : zOk mX6_contains 1 := ⟨zT_of 394 rfl rfl, iniX6, by decide +kernel, by decide +kernel, by decide +kernel⟩
set_option maxRecDepth 20000 in
theorem kX6_contains : zVirt mX6_contains := ⟨zT_of 392 rfl rfl, zT_of 393 rfl rfl⟩
abbrev mX1_rowFits : ZM := (yX1_rowFits, cX1_rowFits, 10, some (.boolean))
set_option maxRecDepth 20000 in
theorem oX1_rowFits : zOk mX1_rowFits 3 := ⟨zT_of 398 rfl rfl, iniX1, by decide +kernel, by decide +kernel, by decide +kernel⟩
set_option maxRecDepth 20000 in
theorem kX1_rowFits : zVirt mX1_rowFits := ⟨zT_of 397 rfl rfl, zT_of 2 rfl rfl⟩
abbrev mX6_at : ZM := (yX6_at, cX6_at, 3, some (.int))
set_option maxRecDepth 20000 in
theorem oX6_at : zOk mX6_at 2 := ⟨zT_of 402 rfl rfl, iniX6, by decide +kernel, by decide +kernel, by decide +kernel⟩
set_option maxRecDepth 20000 in
theorem kX6_at : zVirt mX6_at := ⟨zT_of 400 rfl rfl, zT_of 401 rfl rfl⟩
abbrev mX1_boxUnder : ZM := (yX1_boxUnder, cX1_boxUnder, 3, some (.int))
set_option maxRecDepth 20000 in
theorem oX1_boxUnder : zOk mX1_boxUnder 1 := ⟨zT_of 406 rfl rfl, iniX1, by decide +kernel, by decide +kernel, by decide +kernel⟩
set_option maxRecDepth 20000 in
theorem kX1_boxUnder : zVirt mX1_boxUnder := ⟨zT_of 405 rfl rfl, zT_of 3 rfl rfl⟩
abbrev mX6_size : ZM := (yX6_size, cX6_size, 1, some (.int))
set_option maxRecDepth 20000 in
theorem oX6_size : zOk mX6_size 0 := ⟨zT_of 410 rfl rfl, iniX6, by decide +kernel, by decide +kernel, by decide +kernel⟩
set_option maxRecDepth 20000 in
theorem kX6_size : zVirt mX6_size := ⟨zT_of 408 rfl rfl, zT_of 409 rfl rfl⟩
abbrev mX1_remember : ZM := (yX1_remember, cX1_remember, 4, none)
set_option maxRecDepth 20000 in
theorem oX1_remember : zOk mX1_remember 3 := ⟨zT_of 414 rfl rfl, iniX1, by decide +kernel, by decide +kernel, by decide +kernel⟩
set_option maxRecDepth 20000 in
theorem kX1_remember : zVirt mX1_remember := ⟨zT_of 413 rfl rfl, zT_of 4 rfl rfl⟩
abbrev mX6_dropFirst : ZM := (yX6_dropFirst, cX6_dropFirst, 1, none)
set_option maxRecDepth 20000 in
theorem oX6_dropFirst : zOk mX6_dropFirst 0 := ⟨zT_of 418 rfl rfl, iniX6, by decide +kernel, by decide +kernel, by decide +kernel⟩
set_option maxRecDepth 20000 in
theorem kX6_dropFirst : zVirt mX6_dropFirst := ⟨zT_of 416 rfl rfl, zT_of 417 rfl rfl⟩
abbrev mX8_off : ZM := (yX8_off, cX8_off, 2, some (.int))
set_option maxRecDepth 20000 in
theorem oX8_off : zOk mX8_off 1 := ⟨zT_of 425 rfl rfl, iniX8, by decide +kernel, by decide +kernel, by decide +kernel⟩
set_option maxRecDepth 20000 in
theorem kX8_off : zVirt mX8_off := ⟨zT_of 423 rfl rfl, zT_of 424 rfl rfl⟩
abbrev mX1_takeOff : ZM := (yX1_takeOff, cX1_takeOff, 3, some (.int))
set_option maxRecDepth 20000 in
theorem oX1_takeOff : zOk mX1_takeOff 1 := ⟨zT_of 429 rfl rfl, iniX1, by decide +kernel, by decide +kernel, by decide +kernel⟩
set_option maxRecDepth 20000 in
theorem kX1_takeOff : zVirt mX1_takeOff := ⟨zT_of 427 rfl rfl, zT_of 428 rfl rfl⟩
abbrev mX8_undo : ZM := (yX8_undo, cX8_undo, 1, some (.int))
set_option maxRecDepth 20000 in
theorem oX8_undo : zOk mX8_undo 0 := ⟨zT_of 433 rfl rfl, iniX8, by decide +kernel, by decide +kernel, by decide +kernel⟩
set_option maxRecDepth 20000 in
theorem kX8_undo : zVirt mX8_undo := ⟨zT_of 431 rfl rfl, zT_of 432 rfl rfl⟩
abbrev mX1_stepBack : ZM := (yX1_stepBack, cX1_stepBack, 3, some (.int))
set_option maxRecDepth 20000 in
theorem oX1_stepBack : zOk mX1_stepBack 0 := ⟨zT_of 437 rfl rfl, iniX1, by decide +kernel, by decide +kernel, by decide +kernel⟩
set_option maxRecDepth 20000 in
theorem kX1_stepBack : zVirt mX1_stepBack := ⟨zT_of 435 rfl rfl, zT_of 436 rfl rfl⟩
abbrev mX6_dropLast : ZM := (yX6_dropLast, cX6_dropLast, 1, none)
set_option maxRecDepth 20000 in
theorem oX6_dropLast : zOk mX6_dropLast 0 := ⟨zT_of 441 rfl rfl, iniX6, by decide +kernel, by decide +kernel, by decide +kernel⟩
set_option maxRecDepth 20000 in
theorem kX6_dropLast : zVirt mX6_dropLast := ⟨zT_of 439 rfl rfl, zT_of 440 rfl rfl⟩
abbrev mX8_on : ZM := (yX8_on, cX8_on, 2, some (.int))
set_option maxRecDepth 20000 in
theorem oX8_on : zOk mX8_on 1 := ⟨zT_of 445 rfl rfl, iniX8, by decide +kernel, by decide +kernel, by decide +kernel⟩
set_option maxRecDepth 20000 in
theorem kX8_on : zVirt mX8_on := ⟨zT_of 443 rfl rfl, zT_of 444 rfl rfl⟩
abbrev mX8_badToldApart : ZM := (yX8_badToldApart, cX8_badToldApart, 1, some (.int))
set_option maxRecDepth 20000 in
theorem oX8_badToldApart : zOk mX8_badToldApart 0 := ⟨zT_of 451 rfl rfl, iniX8, by decide +kernel, by decide +kernel, by decide +kernel⟩
set_option maxRecDepth 20000 in
theorem kX8_badToldApart : zVirt mX8_badToldApart := ⟨zT_of 450 rfl rfl, zT_of 5 rfl rfl⟩
abbrev mX8_grasp : ZM := (yX8_grasp, cX8_grasp, 3, some (.int))
set_option maxRecDepth 20000 in
theorem oX8_grasp : zOk mX8_grasp 2 := ⟨zT_of 455 rfl rfl, iniX8, by decide +kernel, by decide +kernel, by decide +kernel⟩
set_option maxRecDepth 20000 in
theorem kX8_grasp : zVirt mX8_grasp := ⟨zT_of 453 rfl rfl, zT_of 454 rfl rfl⟩
abbrev mX1_changeGrasps : ZM := (yX1_changeGrasps, cX1_changeGrasps, 4, some (.int))
set_option maxRecDepth 20000 in
theorem oX1_changeGrasps : zOk mX1_changeGrasps 2 := ⟨zT_of 459 rfl rfl, iniX1, by decide +kernel, by decide +kernel, by decide +kernel⟩
set_option maxRecDepth 20000 in
theorem kX1_changeGrasps : zVirt mX1_changeGrasps := ⟨zT_of 457 rfl rfl, zT_of 458 rfl rfl⟩
abbrev mX8_sort : ZM := (yX8_sort, cX8_sort, 5, some (.int))
set_option maxRecDepth 20000 in
theorem oX8_sort : zOk mX8_sort 4 := ⟨zT_of 463 rfl rfl, iniX8, by decide +kernel, by decide +kernel, by decide +kernel⟩
set_option maxRecDepth 20000 in
theorem kX8_sort : zVirt mX8_sort := ⟨zT_of 461 rfl rfl, zT_of 462 rfl rfl⟩
abbrev mX1_addSort : ZM := (yX1_addSort, cX1_addSort, 6, some (.int))
set_option maxRecDepth 20000 in
theorem oX1_addSort : zOk mX1_addSort 4 := ⟨zT_of 467 rfl rfl, iniX1, by decide +kernel, by decide +kernel, by decide +kernel⟩
set_option maxRecDepth 20000 in
theorem kX1_addSort : zVirt mX1_addSort := ⟨zT_of 465 rfl rfl, zT_of 466 rfl rfl⟩
abbrev mX8_eye : ZM := (yX8_eye, cX8_eye, 3, some (.int))
set_option maxRecDepth 20000 in
theorem oX8_eye : zOk mX8_eye 2 := ⟨zT_of 471 rfl rfl, iniX8, by decide +kernel, by decide +kernel, by decide +kernel⟩
set_option maxRecDepth 20000 in
theorem kX8_eye : zVirt mX8_eye := ⟨zT_of 469 rfl rfl, zT_of 470 rfl rfl⟩
abbrev mX1_changeChance : ZM := (yX1_changeChance, cX1_changeChance, 4, some (.int))
set_option maxRecDepth 20000 in
theorem oX1_changeChance : zOk mX1_changeChance 2 := ⟨zT_of 475 rfl rfl, iniX1, by decide +kernel, by decide +kernel, by decide +kernel⟩
set_option maxRecDepth 20000 in
theorem kX1_changeChance : zVirt mX1_changeChance := ⟨zT_of 473 rfl rfl, zT_of 474 rfl rfl⟩
abbrev mX8_type : ZM := (yX8_type, cX8_type, 2, some (.int))
set_option maxRecDepth 20000 in
theorem oX8_type : zOk mX8_type 1 := ⟨zT_of 479 rfl rfl, iniX8, by decide +kernel, by decide +kernel, by decide +kernel⟩
set_option maxRecDepth 20000 in
theorem kX8_type : zVirt mX8_type := ⟨zT_of 477 rfl rfl, zT_of 478 rfl rfl⟩
abbrev mX7_append : ZM := (yX7_append, cX7_append, 2, some (.int))
set_option maxRecDepth 20000 in
theorem oX7_append : zOk mX7_append 1 := ⟨zT_of 483 rfl rfl, iniX7, by decide +kernel, by decide +kernel, by decide +kernel⟩
set_option maxRecDepth 20000 in
theorem kX7_append : zVirt mX7_append := ⟨zT_of 481 rfl rfl, zT_of 482 rfl rfl⟩
abbrev mX8_clear : ZM := (yX8_clear, cX8_clear, 1, some (.int))
set_option maxRecDepth 20000 in
theorem oX8_clear : zOk mX8_clear 0 := ⟨zT_of 488 rfl rfl, iniX8, by decide +kernel, by decide +kernel, by decide +kernel⟩
set_option maxRecDepth 20000 in
theorem kX8_clear : zVirt mX8_clear := ⟨zT_of 486 rfl rfl, zT_of 487 rfl rfl⟩
abbrev mX7_drop : ZM := (yX7_drop, cX7_drop, 2, some (.int))
set_option maxRecDepth 20000 in
theorem oX7_drop : zOk mX7_drop 0 := ⟨zT_of 492 rfl rfl, iniX7, by decide +kernel, by decide +kernel, by decide +kernel⟩
set_option maxRecDepth 20000 in
theorem kX7_drop : zVirt mX7_drop := ⟨zT_of 490 rfl rfl, zT_of 491 rfl rfl⟩
abbrev mX8_read : ZM := (yX8_read, cX8_read, 3, some (.int))
set_option maxRecDepth 20000 in
theorem oX8_read : zOk mX8_read 0 := ⟨zT_of 496 rfl rfl, iniX8, by decide +kernel, by decide +kernel, by decide +kernel⟩
set_option maxRecDepth 20000 in
theorem kX8_read : zVirt mX8_read := ⟨zT_of 494 rfl rfl, zT_of 495 rfl rfl⟩
abbrev mX1_empty : ZM := (yX1_empty, cX1_empty, 1, none)
set_option maxRecDepth 20000 in
theorem oX1_empty : zOk mX1_empty 0 := ⟨zT_of 500 rfl rfl, iniX1, by decide +kernel, by decide +kernel, by decide +kernel⟩
set_option maxRecDepth 20000 in
theorem kX1_empty : zVirt mX1_empty := ⟨zT_of 498 rfl rfl, zT_of 499 rfl rfl⟩
abbrev mX7_rewind : ZM := (yX7_rewind, cX7_rewind, 1, none)
set_option maxRecDepth 20000 in
theorem oX7_rewind : zOk mX7_rewind 0 := ⟨zT_of 504 rfl rfl, iniX7, by decide +kernel, by decide +kernel, by decide +kernel⟩
set_option maxRecDepth 20000 in
theorem kX7_rewind : zVirt mX7_rewind := ⟨zT_of 502 rfl rfl, zT_of 503 rfl rfl⟩
abbrev mX7_advance : ZM := (yX7_advance, cX7_advance, 2, none)
set_option maxRecDepth 20000 in
theorem oX7_advance : zOk mX7_advance 0 := ⟨zT_of 508 rfl rfl, iniX7, by decide +kernel, by decide +kernel, by decide +kernel⟩
set_option maxRecDepth 20000 in
theorem kX7_advance : zVirt mX7_advance := ⟨zT_of 506 rfl rfl, zT_of 507 rfl rfl⟩
abbrev mX7_byteAt : ZM := (yX7_byteAt, cX7_byteAt, 2, some (.int))
set_option maxRecDepth 20000 in
theorem oX7_byteAt : zOk mX7_byteAt 1 := ⟨zT_of 512 rfl rfl, iniX7, by decide +kernel, by decide +kernel, by decide +kernel⟩
set_option maxRecDepth 20000 in
theorem kX7_byteAt : zVirt mX7_byteAt := ⟨zT_of 511 rfl rfl, zT_of 6 rfl rfl⟩
abbrev mX7_isLetter : ZM := (yX7_isLetter, cX7_isLetter, 1, some (.boolean))
set_option maxRecDepth 20000 in
theorem oX7_isLetter : zOk mX7_isLetter 1 := ⟨zT_of 515 rfl rfl, iniX7, by decide +kernel, by decide +kernel, by decide +kernel⟩
set_option maxRecDepth 20000 in
theorem kX7_isLetter : zStat mX7_isLetter := zT_of 514 rfl rfl
abbrev mX7_advanceOverWord : ZM := (yX7_advanceOverWord, cX7_advanceOverWord, 1, none)
set_option maxRecDepth 20000 in
theorem oX7_advanceOverWord : zOk mX7_advanceOverWord 0 := ⟨zT_of 519 rfl rfl, iniX7, by decide +kernel, by decide +kernel, by decide +kernel⟩
set_option maxRecDepth 20000 in
theorem kX7_advanceOverWord : zVirt mX7_advanceOverWord := ⟨zT_of 518 rfl rfl, zT_of 7 rfl rfl⟩
abbrev mX7_wordNumber : ZM := (yX7_wordNumber, cX7_wordNumber, 2, some (.int))
set_option maxRecDepth 20000 in
theorem oX7_wordNumber : zOk mX7_wordNumber 0 := ⟨zT_of 523 rfl rfl, iniX7, by decide +kernel, by decide +kernel, by decide +kernel⟩
set_option maxRecDepth 20000 in
theorem kX7_wordNumber : zVirt mX7_wordNumber := ⟨zT_of 522 rfl rfl, zT_of 8 rfl rfl⟩
abbrev mX7_nameOf : ZM := (yX7_nameOf, cX7_nameOf, 1, some (.object "java/lang/String"))
set_option maxRecDepth 20000 in
theorem oX7_nameOf : zOk mX7_nameOf 1 := ⟨zT_of 526 rfl rfl, iniX7, by decide +kernel, by decide +kernel, by decide +kernel⟩
set_option maxRecDepth 20000 in
theorem kX7_nameOf : zStat mX7_nameOf := zT_of 525 rfl rfl
abbrev mX7_spells : ZM := (yX7_spells, cX7_spells, 3, some (.boolean))
set_option maxRecDepth 20000 in
theorem oX7_spells : zOk mX7_spells 1 := ⟨zT_of 535 rfl rfl, iniX7, by decide +kernel, by decide +kernel, by decide +kernel⟩
set_option maxRecDepth 20000 in
theorem kX7_spells : zVirt mX7_spells := ⟨zT_of 534 rfl rfl, zT_of 9 rfl rfl⟩
abbrev mJ0_length_8abf5 : ZM := (yJ0_length_8abf5, cJ0_length_8abf5, 1, some (.int))
set_option maxRecDepth 20000 in
theorem oJ0_length_8abf5 : zOk mJ0_length_8abf5 0 := ⟨zT_of 539 rfl rfl, iniJ0, by decide +kernel, by decide +kernel, by decide +kernel⟩
set_option maxRecDepth 20000 in
theorem kJ0_length_8abf5 : zVirt mJ0_length_8abf5 := ⟨zT_of 537 rfl rfl, zT_of 538 rfl rfl⟩
abbrev mJ0_coder_7d493 : ZM := (yJ0_coder_7d493, cJ0_coder_7d493, 1, some (.byte))
set_option maxRecDepth 20000 in
theorem oJ0_coder_7d493 : zOk mJ0_coder_7d493 0 := ⟨zT_of 543 rfl rfl, iniJ0, by decide +kernel, by decide +kernel, by decide +kernel⟩
set_option maxRecDepth 20000 in
theorem kJ0_coder_7d493 : zVirt mJ0_coder_7d493 := ⟨zT_of 541 rfl rfl, zT_of 542 rfl rfl⟩
abbrev mJ0_charAt_5068e : ZM := (yJ0_charAt_5068e, cJ0_charAt_5068e, 2, some (.char))
set_option maxRecDepth 20000 in
theorem oJ0_charAt_5068e : zOk mJ0_charAt_5068e 1 := ⟨zT_of 549 rfl rfl, iniJ0, by decide +kernel, by decide +kernel, by decide +kernel⟩
set_option maxRecDepth 20000 in
theorem kJ0_charAt_5068e : zVirt mJ0_charAt_5068e := ⟨zT_of 547 rfl rfl, zT_of 548 rfl rfl⟩
abbrev mJ0_isLatin1_aae02 : ZM := (yJ0_isLatin1_aae02, cJ0_isLatin1_aae02, 1, some (.boolean))
set_option maxRecDepth 20000 in
theorem oJ0_isLatin1_aae02 : zOk mJ0_isLatin1_aae02 0 := ⟨zT_of 553 rfl rfl, iniJ0, by decide +kernel, by decide +kernel, by decide +kernel⟩
set_option maxRecDepth 20000 in
theorem kJ0_isLatin1_aae02 : zVirt mJ0_isLatin1_aae02 := ⟨zT_of 551 rfl rfl, zT_of 552 rfl rfl⟩
abbrev mJ1_charAt_3b067 : ZM := (yJ1_charAt_3b067, cJ1_charAt_3b067, 2, some (.char))
set_option maxRecDepth 20000 in
theorem oJ1_charAt_3b067 : zOk mJ1_charAt_3b067 2 := ⟨zT_of 556 rfl rfl, iniJ1, by decide +kernel, by decide +kernel, by decide +kernel⟩
set_option maxRecDepth 20000 in
theorem kJ1_charAt_3b067 : zStat mJ1_charAt_3b067 := zT_of 555 rfl rfl
abbrev mJ0_checkIndex_df160 : ZM := (yJ0_checkIndex_df160, cJ0_checkIndex_df160, 2, none)
set_option maxRecDepth 20000 in
theorem oJ0_checkIndex_df160 : zOk mJ0_checkIndex_df160 2 := ⟨zT_of 559 rfl rfl, iniJ0, by decide +kernel, by decide +kernel, by decide +kernel⟩
set_option maxRecDepth 20000 in
theorem kJ0_checkIndex_df160 : zStat mJ0_checkIndex_df160 := zT_of 558 rfl rfl
abbrev mJ3_checkIndex_8e157 : ZM := (yJ3_checkIndex_8e157, cJ3_checkIndex_8e157, 3, some (.int))
set_option maxRecDepth 20000 in
theorem oJ3_checkIndex_8e157 : zOk mJ3_checkIndex_8e157 3 := ⟨zT_of 564 rfl rfl, iniJ3, by decide +kernel, by decide +kernel, by decide +kernel⟩
set_option maxRecDepth 20000 in
theorem kJ3_checkIndex_8e157 : zStat mJ3_checkIndex_8e157 := zT_of 563 rfl rfl
abbrev mJ2_charAt_3b067 : ZM := (yJ2_charAt_3b067, cJ2_charAt_3b067, 2, some (.char))
set_option maxRecDepth 20000 in
theorem oJ2_charAt_3b067 : zOk mJ2_charAt_3b067 2 := ⟨zT_of 567 rfl rfl, iniJ2, by decide +kernel, by decide +kernel, by decide +kernel⟩
set_option maxRecDepth 20000 in
theorem kJ2_charAt_3b067 : zStat mJ2_charAt_3b067 := zT_of 566 rfl rfl
abbrev mJ2_checkIndex_2214a : ZM := (yJ2_checkIndex_2214a, cJ2_checkIndex_2214a, 2, none)
set_option maxRecDepth 20000 in
theorem oJ2_checkIndex_2214a : zOk mJ2_checkIndex_2214a 2 := ⟨zT_of 570 rfl rfl, iniJ2, by decide +kernel, by decide +kernel, by decide +kernel⟩
set_option maxRecDepth 20000 in
theorem kJ2_checkIndex_2214a : zStat mJ2_checkIndex_2214a := zT_of 569 rfl rfl
abbrev mJ2_length_9d52b : ZM := (yJ2_length_9d52b, cJ2_length_9d52b, 1, some (.int))
set_option maxRecDepth 20000 in
theorem oJ2_length_9d52b : zOk mJ2_length_9d52b 1 := ⟨zT_of 573 rfl rfl, iniJ2, by decide +kernel, by decide +kernel, by decide +kernel⟩
set_option maxRecDepth 20000 in
theorem kJ2_length_9d52b : zStat mJ2_length_9d52b := zT_of 572 rfl rfl
abbrev mJ2_getChar_3b067 : ZM := (yJ2_getChar_3b067, cJ2_getChar_3b067, 2, some (.char))
set_option maxRecDepth 20000 in
theorem oJ2_getChar_3b067 : zOk mJ2_getChar_3b067 2 := ⟨zT_of 577 rfl rfl, iniJ2, by decide +kernel, by decide +kernel, by decide +kernel⟩
set_option maxRecDepth 20000 in
theorem kJ2_getChar_3b067 : zStat mJ2_getChar_3b067 := zT_of 576 rfl rfl
abbrev mX7_isFigure : ZM := (yX7_isFigure, cX7_isFigure, 1, some (.boolean))
set_option maxRecDepth 20000 in
theorem oX7_isFigure : zOk mX7_isFigure 1 := ⟨zT_of 586 rfl rfl, iniX7, by decide +kernel, by decide +kernel, by decide +kernel⟩
set_option maxRecDepth 20000 in
theorem kX7_isFigure : zStat mX7_isFigure := zT_of 585 rfl rfl
abbrev mX7_advanceOverNumber : ZM := (yX7_advanceOverNumber, cX7_advanceOverNumber, 2, none)
set_option maxRecDepth 20000 in
theorem oX7_advanceOverNumber : zOk mX7_advanceOverNumber 0 := ⟨zT_of 590 rfl rfl, iniX7, by decide +kernel, by decide +kernel, by decide +kernel⟩
set_option maxRecDepth 20000 in
theorem kX7_advanceOverNumber : zVirt mX7_advanceOverNumber := ⟨zT_of 589 rfl rfl, zT_of 10 rfl rfl⟩
abbrev mX7_isAtEnd : ZM := (yX7_isAtEnd, cX7_isAtEnd, 1, some (.boolean))
set_option maxRecDepth 20000 in
theorem oX7_isAtEnd : zOk mX7_isAtEnd 0 := ⟨zT_of 594 rfl rfl, iniX7, by decide +kernel, by decide +kernel, by decide +kernel⟩
set_option maxRecDepth 20000 in
theorem kX7_isAtEnd : zVirt mX7_isAtEnd := ⟨zT_of 592 rfl rfl, zT_of 593 rfl rfl⟩
abbrev mX7_takeItem : ZM := (yX7_takeItem, cX7_takeItem, 3, some (.boolean))
set_option maxRecDepth 20000 in
theorem oX7_takeItem : zOk mX7_takeItem 0 := ⟨zT_of 598 rfl rfl, iniX7, by decide +kernel, by decide +kernel, by decide +kernel⟩
set_option maxRecDepth 20000 in
theorem kX7_takeItem : zVirt mX7_takeItem := ⟨zT_of 596 rfl rfl, zT_of 597 rfl rfl⟩
abbrev mX7_numbersDue : ZM := (yX7_numbersDue, cX7_numbersDue, 1, some (.int))
set_option maxRecDepth 20000 in
theorem oX7_numbersDue : zOk mX7_numbersDue 1 := ⟨zT_of 601 rfl rfl, iniX7, by decide +kernel, by decide +kernel, by decide +kernel⟩
set_option maxRecDepth 20000 in
theorem kX7_numbersDue : zStat mX7_numbersDue := zT_of 600 rfl rfl
abbrev mX7_place : ZM := (yX7_place, cX7_place, 1, some (.int))
set_option maxRecDepth 20000 in
theorem oX7_place : zOk mX7_place 0 := ⟨zT_of 606 rfl rfl, iniX7, by decide +kernel, by decide +kernel, by decide +kernel⟩
set_option maxRecDepth 20000 in
theorem kX7_place : zVirt mX7_place := ⟨zT_of 604 rfl rfl, zT_of 605 rfl rfl⟩
abbrev mX8_tellItem : ZM := (yX8_tellItem, cX8_tellItem, 5, some (.int))
set_option maxRecDepth 20000 in
theorem oX8_tellItem : zOk mX8_tellItem 1 := ⟨zT_of 610 rfl rfl, iniX8, by decide +kernel, by decide +kernel, by decide +kernel⟩
set_option maxRecDepth 20000 in
theorem kX8_tellItem : zVirt mX8_tellItem := ⟨zT_of 609 rfl rfl, zT_of 11 rfl rfl⟩
abbrev mX7_numberAt : ZM := (yX7_numberAt, cX7_numberAt, 2, some (.int))
set_option maxRecDepth 20000 in
theorem oX7_numberAt : zOk mX7_numberAt 1 := ⟨zT_of 614 rfl rfl, iniX7, by decide +kernel, by decide +kernel, by decide +kernel⟩
set_option maxRecDepth 20000 in
theorem kX7_numberAt : zVirt mX7_numberAt := ⟨zT_of 612 rfl rfl, zT_of 613 rfl rfl⟩
abbrev mX7_word : ZM := (yX7_word, cX7_word, 1, some (.int))
set_option maxRecDepth 20000 in
theorem oX7_word : zOk mX7_word 0 := ⟨zT_of 618 rfl rfl, iniX7, by decide +kernel, by decide +kernel, by decide +kernel⟩
set_option maxRecDepth 20000 in
theorem kX7_word : zVirt mX7_word := ⟨zT_of 616 rfl rfl, zT_of 617 rfl rfl⟩
abbrev mX1_become : ZM := (yX1_become, cX1_become, 2, none)
set_option maxRecDepth 20000 in
theorem oX1_become : zOk mX1_become 1 := ⟨zT_of 622 rfl rfl, iniX1, by decide +kernel, by decide +kernel, by decide +kernel⟩
set_option maxRecDepth 20000 in
theorem kX1_become : zVirt mX1_become := ⟨zT_of 620 rfl rfl, zT_of 621 rfl rfl⟩
abbrev mX6_become : ZM := (yX6_become, cX6_become, 2, none)
set_option maxRecDepth 20000 in
theorem oX6_become : zOk mX6_become 1 := ⟨zT_of 626 rfl rfl, iniX6, by decide +kernel, by decide +kernel, by decide +kernel⟩
set_option maxRecDepth 20000 in
theorem kX6_become : zVirt mX6_become := ⟨zT_of 624 rfl rfl, zT_of 625 rfl rfl⟩
abbrev mX8_fits : ZM := (yX8_fits, cX8_fits, 2, some (.int))
set_option maxRecDepth 20000 in
theorem oX8_fits : zOk mX8_fits 1 := ⟨zT_of 630 rfl rfl, iniX8, by decide +kernel, by decide +kernel, by decide +kernel⟩
set_option maxRecDepth 20000 in
theorem kX8_fits : zVirt mX8_fits := ⟨zT_of 628 rfl rfl, zT_of 629 rfl rfl⟩
abbrev mX1_lidsFor : ZM := (yX1_lidsFor, cX1_lidsFor, 4, some (.int))
set_option maxRecDepth 20000 in
theorem oX1_lidsFor : zOk mX1_lidsFor 1 := ⟨zT_of 634 rfl rfl, iniX1, by decide +kernel, by decide +kernel, by decide +kernel⟩
set_option maxRecDepth 20000 in
theorem kX1_lidsFor : zVirt mX1_lidsFor := ⟨zT_of 632 rfl rfl, zT_of 633 rfl rfl⟩
abbrev mX8_most : ZM := (yX8_most, cX8_most, 2, some (.int))
set_option maxRecDepth 20000 in
theorem oX8_most : zOk mX8_most 1 := ⟨zT_of 638 rfl rfl, iniX8, by decide +kernel, by decide +kernel, by decide +kernel⟩
set_option maxRecDepth 20000 in
theorem kX8_most : zVirt mX8_most := ⟨zT_of 636 rfl rfl, zT_of 637 rfl rfl⟩
abbrev mX8_pairLids : ZM := (yX8_pairLids, cX8_pairLids, 3, none)
set_option maxRecDepth 20000 in
theorem oX8_pairLids : zOk mX8_pairLids 1 := ⟨zT_of 642 rfl rfl, iniX8, by decide +kernel, by decide +kernel, by decide +kernel⟩
set_option maxRecDepth 20000 in
theorem kX8_pairLids : zVirt mX8_pairLids := ⟨zT_of 641 rfl rfl, zT_of 12 rfl rfl⟩
abbrev mX4_begin : ZM := (yX4_begin, cX4_begin, 2, none)
set_option maxRecDepth 20000 in
theorem oX4_begin : zOk mX4_begin 1 := ⟨zT_of 647 rfl rfl, iniX4, by decide +kernel, by decide +kernel, by decide +kernel⟩
set_option maxRecDepth 20000 in
theorem kX4_begin : zVirt mX4_begin := ⟨zT_of 645 rfl rfl, zT_of 646 rfl rfl⟩
set_option maxRecDepth 20000 in
theorem w_code_min : Cond.code Lib.Math.min.name Lib.Math.min.code 2 (some .int) ∈ zT := zT_of 650 rfl rfl
set_option maxRecDepth 20000 in
theorem w_stat_min : Cond.static Lib.Math.min.name ∈ zT := zT_of 649 rfl rfl
abbrev mX4_addRow : ZM := (yX4_addRow, cX4_addRow, 3, none)
set_option maxRecDepth 20000 in
theorem oX4_addRow : zOk mX4_addRow 2 := ⟨zT_of 655 rfl rfl, iniX4, by decide +kernel, by decide +kernel, by decide +kernel⟩
set_option maxRecDepth 20000 in
theorem kX4_addRow : zVirt mX4_addRow := ⟨zT_of 653 rfl rfl, zT_of 654 rfl rfl⟩
abbrev mX4_solve : ZM := (yX4_solve, cX4_solve, 3, none)
set_option maxRecDepth 20000 in
theorem oX4_solve : zOk mX4_solve 0 := ⟨zT_of 659 rfl rfl, iniX4, by decide +kernel, by decide +kernel, by decide +kernel⟩
set_option maxRecDepth 20000 in
theorem kX4_solve : zVirt mX4_solve := ⟨zT_of 657 rfl rfl, zT_of 658 rfl rfl⟩
abbrev mX4_bestOf : ZM := (yX4_bestOf, cX4_bestOf, 6, some (.int))
set_option maxRecDepth 20000 in
theorem oX4_bestOf : zOk mX4_bestOf 2 := ⟨zT_of 663 rfl rfl, iniX4, by decide +kernel, by decide +kernel, by decide +kernel⟩
set_option maxRecDepth 20000 in
theorem kX4_bestOf : zVirt mX4_bestOf := ⟨zT_of 662 rfl rfl, zT_of 13 rfl rfl⟩
abbrev mX4_bestFrom : ZM := (yX4_bestFrom, cX4_bestFrom, 4, some (.int))
set_option maxRecDepth 20000 in
theorem oX4_bestFrom : zOk mX4_bestFrom 2 := ⟨zT_of 667 rfl rfl, iniX4, by decide +kernel, by decide +kernel, by decide +kernel⟩
set_option maxRecDepth 20000 in
theorem kX4_bestFrom : zVirt mX4_bestFrom := ⟨zT_of 666 rfl rfl, zT_of 14 rfl rfl⟩
abbrev mX4_bestWith : ZM := (yX4_bestWith, cX4_bestWith, 4, some (.int))
set_option maxRecDepth 20000 in
theorem oX4_bestWith : zOk mX4_bestWith 3 := ⟨zT_of 672 rfl rfl, iniX4, by decide +kernel, by decide +kernel, by decide +kernel⟩
set_option maxRecDepth 20000 in
theorem kX4_bestWith : zVirt mX4_bestWith := ⟨zT_of 671 rfl rfl, zT_of 15 rfl rfl⟩
abbrev mX4_bestWithout : ZM := (yX4_bestWithout, cX4_bestWithout, 2, some (.int))
set_option maxRecDepth 20000 in
theorem oX4_bestWithout : zOk mX4_bestWithout 1 := ⟨zT_of 676 rfl rfl, iniX4, by decide +kernel, by decide +kernel, by decide +kernel⟩
set_option maxRecDepth 20000 in
theorem kX4_bestWithout : zVirt mX4_bestWithout := ⟨zT_of 674 rfl rfl, zT_of 675 rfl rfl⟩
abbrev mX4_partner : ZM := (yX4_partner, cX4_partner, 5, some (.int))
set_option maxRecDepth 20000 in
theorem oX4_partner : zOk mX4_partner 1 := ⟨zT_of 680 rfl rfl, iniX4, by decide +kernel, by decide +kernel, by decide +kernel⟩
set_option maxRecDepth 20000 in
theorem kX4_partner : zVirt mX4_partner := ⟨zT_of 678 rfl rfl, zT_of 679 rfl rfl⟩
abbrev mX4_leastColumn : ZM := (yX4_leastColumn, cX4_leastColumn, 5, some (.int))
set_option maxRecDepth 20000 in
theorem oX4_leastColumn : zOk mX4_leastColumn 2 := ⟨zT_of 684 rfl rfl, iniX4, by decide +kernel, by decide +kernel, by decide +kernel⟩
set_option maxRecDepth 20000 in
theorem kX4_leastColumn : zVirt mX4_leastColumn := ⟨zT_of 683 rfl rfl, zT_of 16 rfl rfl⟩
abbrev mX8_lacking : ZM := (yX8_lacking, cX8_lacking, 1, some (.int))
set_option maxRecDepth 20000 in
theorem oX8_lacking : zOk mX8_lacking 0 := ⟨zT_of 688 rfl rfl, iniX8, by decide +kernel, by decide +kernel, by decide +kernel⟩
set_option maxRecDepth 20000 in
theorem kX8_lacking : zVirt mX8_lacking := ⟨zT_of 686 rfl rfl, zT_of 687 rfl rfl⟩
abbrev mX0_lookAt : ZM := (yX0_lookAt, cX0_lookAt, 5, none)
set_option maxRecDepth 20000 in
theorem oX0_lookAt : zOk mX0_lookAt 1 := ⟨zT_of 692 rfl rfl, iniX0, by decide +kernel, by decide +kernel, by decide +kernel⟩
set_option maxRecDepth 20000 in
theorem kX0_lookAt : zVirt mX0_lookAt := ⟨zT_of 690 rfl rfl, zT_of 691 rfl rfl⟩
abbrev mX0_lackOf : ZM := (yX0_lackOf, cX0_lackOf, 2, some (.int))
set_option maxRecDepth 20000 in
theorem oX0_lackOf : zOk mX0_lackOf 1 := ⟨zT_of 699 rfl rfl, iniX0, by decide +kernel, by decide +kernel, by decide +kernel⟩
set_option maxRecDepth 20000 in
theorem kX0_lackOf : zVirt mX0_lackOf := ⟨zT_of 698 rfl rfl, zT_of 17 rfl rfl⟩
abbrev mJ6_bitCount_0f7a4 : ZM := (yJ6_bitCount_0f7a4, cJ6_bitCount_0f7a4, 1, some (.int))
set_option maxRecDepth 20000 in
theorem oJ6_bitCount_0f7a4 : zOk mJ6_bitCount_0f7a4 1 := ⟨zT_of 703 rfl rfl, iniJ6, by decide +kernel, by decide +kernel, by decide +kernel⟩
set_option maxRecDepth 20000 in
theorem kJ6_bitCount_0f7a4 : zStat mJ6_bitCount_0f7a4 := zT_of 702 rfl rfl
abbrev mX0_areLiddedWithoutOne : ZM := (yX0_areLiddedWithoutOne, cX0_areLiddedWithoutOne, 3, some (.boolean))
set_option maxRecDepth 20000 in
theorem oX0_areLiddedWithoutOne : zOk mX0_areLiddedWithoutOne 1 := ⟨zT_of 710 rfl rfl, iniX0, by decide +kernel, by decide +kernel, by decide +kernel⟩
set_option maxRecDepth 20000 in
theorem kX0_areLiddedWithoutOne : zVirt mX0_areLiddedWithoutOne := ⟨zT_of 709 rfl rfl, zT_of 18 rfl rfl⟩
abbrev mX0_shortest : ZM := (yX0_shortest, cX0_shortest, 4, some (.int))
set_option maxRecDepth 20000 in
theorem oX0_shortest : zOk mX0_shortest 0 := ⟨zT_of 714 rfl rfl, iniX0, by decide +kernel, by decide +kernel, by decide +kernel⟩
set_option maxRecDepth 20000 in
theorem kX0_shortest : zVirt mX0_shortest := ⟨zT_of 712 rfl rfl, zT_of 713 rfl rfl⟩
abbrev mX8_soup : ZM := (yX8_soup, cX8_soup, 4, some (.int))
set_option maxRecDepth 20000 in
theorem oX8_soup : zOk mX8_soup 2 := ⟨zT_of 718 rfl rfl, iniX8, by decide +kernel, by decide +kernel, by decide +kernel⟩
set_option maxRecDepth 20000 in
theorem kX8_soup : zVirt mX8_soup := ⟨zT_of 716 rfl rfl, zT_of 717 rfl rfl⟩
abbrev mX0_leastFor : ZM := (yX0_leastFor, cX0_leastFor, 7, some (.int))
set_option maxRecDepth 20000 in
theorem oX0_leastFor : zOk mX0_leastFor 2 := ⟨zT_of 723 rfl rfl, iniX0, by decide +kernel, by decide +kernel, by decide +kernel⟩
set_option maxRecDepth 20000 in
theorem kX0_leastFor : zVirt mX0_leastFor := ⟨zT_of 721 rfl rfl, zT_of 722 rfl rfl⟩
abbrev mX1_sumOver : ZM := (yX1_sumOver, cX1_sumOver, 5, some (.int))
set_option maxRecDepth 20000 in
theorem oX1_sumOver : zOk mX1_sumOver 2 := ⟨zT_of 728 rfl rfl, iniX1, by decide +kernel, by decide +kernel, by decide +kernel⟩
set_option maxRecDepth 20000 in
theorem kX1_sumOver : zVirt mX1_sumOver := ⟨zT_of 726 rfl rfl, zT_of 727 rfl rfl⟩
abbrev mX8_much : ZM := (yX8_much, cX8_much, 1, some (.int))
set_option maxRecDepth 20000 in
theorem oX8_much : zOk mX8_much 0 := ⟨zT_of 733 rfl rfl, iniX8, by decide +kernel, by decide +kernel, by decide +kernel⟩
set_option maxRecDepth 20000 in
theorem kX8_much : zVirt mX8_much := ⟨zT_of 731 rfl rfl, zT_of 732 rfl rfl⟩
abbrev mX8_worth : ZM := (yX8_worth, cX8_worth, 2, some (.int))
set_option maxRecDepth 20000 in
theorem oX8_worth : zOk mX8_worth 1 := ⟨zT_of 737 rfl rfl, iniX8, by decide +kernel, by decide +kernel, by decide +kernel⟩
set_option maxRecDepth 20000 in
theorem kX8_worth : zVirt mX8_worth := ⟨zT_of 735 rfl rfl, zT_of 736 rfl rfl⟩
abbrev mX8_spare : ZM := (yX8_spare, cX8_spare, 3, some (.int))
set_option maxRecDepth 20000 in
theorem oX8_spare : zOk mX8_spare 0 := ⟨zT_of 741 rfl rfl, iniX8, by decide +kernel, by decide +kernel, by decide +kernel⟩
set_option maxRecDepth 20000 in
theorem kX8_spare : zVirt mX8_spare := ⟨zT_of 739 rfl rfl, zT_of 740 rfl rfl⟩
abbrev mX8_piles : ZM := (yX8_piles, cX8_piles, 4, some (.int))
set_option maxRecDepth 20000 in
theorem oX8_piles : zOk mX8_piles 1 := ⟨zT_of 745 rfl rfl, iniX8, by decide +kernel, by decide +kernel, by decide +kernel⟩
set_option maxRecDepth 20000 in
theorem kX8_piles : zVirt mX8_piles := ⟨zT_of 743 rfl rfl, zT_of 744 rfl rfl⟩
abbrev mX1_boxesAround : ZM := (yX1_boxesAround, cX1_boxesAround, 4, some (.int))
set_option maxRecDepth 20000 in
theorem oX1_boxesAround : zOk mX1_boxesAround 1 := ⟨zT_of 749 rfl rfl, iniX1, by decide +kernel, by decide +kernel, by decide +kernel⟩
set_option maxRecDepth 20000 in
theorem kX1_boxesAround : zVirt mX1_boxesAround := ⟨zT_of 747 rfl rfl, zT_of 748 rfl rfl⟩
abbrev mX1_goesInto : ZM := (yX1_goesInto, cX1_goesInto, 5, some (.boolean))
set_option maxRecDepth 20000 in
theorem oX1_goesInto : zOk mX1_goesInto 2 := ⟨zT_of 753 rfl rfl, iniX1, by decide +kernel, by decide +kernel, by decide +kernel⟩
set_option maxRecDepth 20000 in
theorem kX1_goesInto : zVirt mX1_goesInto := ⟨zT_of 752 rfl rfl, zT_of 19 rfl rfl⟩
abbrev mX8_shelf : ZM := (yX8_shelf, cX8_shelf, 4, some (.int))
set_option maxRecDepth 20000 in
theorem oX8_shelf : zOk mX8_shelf 1 := ⟨zT_of 757 rfl rfl, iniX8, by decide +kernel, by decide +kernel, by decide +kernel⟩
set_option maxRecDepth 20000 in
theorem kX8_shelf : zVirt mX8_shelf := ⟨zT_of 755 rfl rfl, zT_of 756 rfl rfl⟩
abbrev mX5_begin : ZM := (yX5_begin, cX5_begin, 1, none)
set_option maxRecDepth 20000 in
theorem oX5_begin : zOk mX5_begin 0 := ⟨zT_of 761 rfl rfl, iniX5, by decide +kernel, by decide +kernel, by decide +kernel⟩
set_option maxRecDepth 20000 in
theorem kX5_begin : zVirt mX5_begin := ⟨zT_of 759 rfl rfl, zT_of 760 rfl rfl⟩
abbrev mX5_add : ZM := (yX5_add, cX5_add, 2, none)
set_option maxRecDepth 20000 in
theorem oX5_add : zOk mX5_add 1 := ⟨zT_of 765 rfl rfl, iniX5, by decide +kernel, by decide +kernel, by decide +kernel⟩
set_option maxRecDepth 20000 in
theorem kX5_add : zVirt mX5_add := ⟨zT_of 763 rfl rfl, zT_of 764 rfl rfl⟩
abbrev mX8_shelfCost : ZM := (yX8_shelfCost, cX8_shelfCost, 4, some (.int))
set_option maxRecDepth 20000 in
theorem oX8_shelfCost : zOk mX8_shelfCost 1 := ⟨zT_of 769 rfl rfl, iniX8, by decide +kernel, by decide +kernel, by decide +kernel⟩
set_option maxRecDepth 20000 in
theorem kX8_shelfCost : zVirt mX8_shelfCost := ⟨zT_of 768 rfl rfl, zT_of 20 rfl rfl⟩
abbrev mX5_itemAt : ZM := (yX5_itemAt, cX5_itemAt, 3, some (.int))
set_option maxRecDepth 20000 in
theorem oX5_itemAt : zOk mX5_itemAt 1 := ⟨zT_of 773 rfl rfl, iniX5, by decide +kernel, by decide +kernel, by decide +kernel⟩
set_option maxRecDepth 20000 in
theorem kX5_itemAt : zVirt mX5_itemAt := ⟨zT_of 771 rfl rfl, zT_of 772 rfl rfl⟩
abbrev mX5_placeOf : ZM := (yX5_placeOf, cX5_placeOf, 4, some (.int))
set_option maxRecDepth 20000 in
theorem oX5_placeOf : zOk mX5_placeOf 1 := ⟨zT_of 777 rfl rfl, iniX5, by decide +kernel, by decide +kernel, by decide +kernel⟩
set_option maxRecDepth 20000 in
theorem kX5_placeOf : zVirt mX5_placeOf := ⟨zT_of 776 rfl rfl, zT_of 21 rfl rfl⟩
abbrev mX8_buy : ZM := (yX8_buy, cX8_buy, 3, some (.int))
set_option maxRecDepth 20000 in
theorem oX8_buy : zOk mX8_buy 1 := ⟨zT_of 781 rfl rfl, iniX8, by decide +kernel, by decide +kernel, by decide +kernel⟩
set_option maxRecDepth 20000 in
theorem kX8_buy : zVirt mX8_buy := ⟨zT_of 779 rfl rfl, zT_of 780 rfl rfl⟩
abbrev mX8_leastPurchase : ZM := (yX8_leastPurchase, cX8_leastPurchase, 4, some (.int))
set_option maxRecDepth 20000 in
theorem oX8_leastPurchase : zOk mX8_leastPurchase 0 := ⟨zT_of 785 rfl rfl, iniX8, by decide +kernel, by decide +kernel, by decide +kernel⟩
set_option maxRecDepth 20000 in
theorem kX8_leastPurchase : zVirt mX8_leastPurchase := ⟨zT_of 784 rfl rfl, zT_of 22 rfl rfl⟩
abbrev mX1_purchaseFor : ZM := (yX1_purchaseFor, cX1_purchaseFor, 4, some (.int))
set_option maxRecDepth 20000 in
theorem oX1_purchaseFor : zOk mX1_purchaseFor 1 := ⟨zT_of 789 rfl rfl, iniX1, by decide +kernel, by decide +kernel, by decide +kernel⟩
set_option maxRecDepth 20000 in
theorem kX1_purchaseFor : zVirt mX1_purchaseFor := ⟨zT_of 787 rfl rfl, zT_of 788 rfl rfl⟩
abbrev mX8_sortShift : ZM := (yX8_sortShift, cX8_sortShift, 1, some (.int))
set_option maxRecDepth 20000 in
theorem oX8_sortShift : zOk mX8_sortShift 1 := ⟨zT_of 793 rfl rfl, iniX8, by decide +kernel, by decide +kernel, by decide +kernel⟩
set_option maxRecDepth 20000 in
theorem kX8_sortShift : zStat mX8_sortShift := zT_of 792 rfl rfl
abbrev mX8_tries : ZM := (yX8_tries, cX8_tries, 2, some (.int))
set_option maxRecDepth 20000 in
theorem oX8_tries : zOk mX8_tries 1 := ⟨zT_of 800 rfl rfl, iniX8, by decide +kernel, by decide +kernel, by decide +kernel⟩
set_option maxRecDepth 20000 in
theorem kX8_tries : zVirt mX8_tries := ⟨zT_of 798 rfl rfl, zT_of 799 rfl rfl⟩
abbrev mX8_rankTries : ZM := (yX8_rankTries, cX8_rankTries, 4, none)
set_option maxRecDepth 20000 in
theorem oX8_rankTries : zOk mX8_rankTries 0 := ⟨zT_of 804 rfl rfl, iniX8, by decide +kernel, by decide +kernel, by decide +kernel⟩
set_option maxRecDepth 20000 in
theorem kX8_rankTries : zVirt mX8_rankTries := ⟨zT_of 803 rfl rfl, zT_of 23 rfl rfl⟩
abbrev mX1_firstSureLid : ZM := (yX1_firstSureLid, cX1_firstSureLid, 2, some (.int))
set_option maxRecDepth 20000 in
theorem oX1_firstSureLid : zOk mX1_firstSureLid 0 := ⟨zT_of 808 rfl rfl, iniX1, by decide +kernel, by decide +kernel, by decide +kernel⟩
set_option maxRecDepth 20000 in
theorem kX1_firstSureLid : zVirt mX1_firstSureLid := ⟨zT_of 806 rfl rfl, zT_of 807 rfl rfl⟩
abbrev mX8_meanOfTries : ZM := (yX8_meanOfTries, cX8_meanOfTries, 8, none)
set_option maxRecDepth 20000 in
theorem oX8_meanOfTries : zOk mX8_meanOfTries 0 := ⟨zT_of 812 rfl rfl, iniX8, by decide +kernel, by decide +kernel, by decide +kernel⟩
set_option maxRecDepth 20000 in
theorem kX8_meanOfTries : zVirt mX8_meanOfTries := ⟨zT_of 811 rfl rfl, zT_of 24 rfl rfl⟩
abbrev mX3_become : ZM := (yX3_become, cX3_become, 7, none)
set_option maxRecDepth 20000 in
theorem oX3_become : zOk mX3_become 2 := ⟨zT_of 817 rfl rfl, iniX3, by decide +kernel, by decide +kernel, by decide +kernel⟩
set_option maxRecDepth 20000 in
theorem kX3_become : zVirt mX3_become := ⟨zT_of 815 rfl rfl, zT_of 816 rfl rfl⟩
abbrev mX3_greatestDivisor : ZM := (yX3_greatestDivisor, cX3_greatestDivisor, 7, some (.long))
set_option maxRecDepth 20000 in
theorem oX3_greatestDivisor : zOk mX3_greatestDivisor 2 := ⟨zT_of 820 rfl rfl, iniX3, by decide +kernel, by decide +kernel, by decide +kernel⟩
set_option maxRecDepth 20000 in
theorem kX3_greatestDivisor : zStat mX3_greatestDivisor := zT_of 819 rfl rfl
abbrev mX8_nuts : ZM := (yX8_nuts, cX8_nuts, 4, some (.int))
set_option maxRecDepth 20000 in
theorem oX8_nuts : zOk mX8_nuts 2 := ⟨zT_of 824 rfl rfl, iniX8, by decide +kernel, by decide +kernel, by decide +kernel⟩
set_option maxRecDepth 20000 in
theorem kX8_nuts : zVirt mX8_nuts := ⟨zT_of 822 rfl rfl, zT_of 823 rfl rfl⟩
abbrev mX8_factorial : ZM := (yX8_factorial, cX8_factorial, 3, some (.int))
set_option maxRecDepth 20000 in
theorem oX8_factorial : zOk mX8_factorial 1 := ⟨zT_of 827 rfl rfl, iniX8, by decide +kernel, by decide +kernel, by decide +kernel⟩
set_option maxRecDepth 20000 in
theorem kX8_factorial : zStat mX8_factorial := zT_of 826 rfl rfl
abbrev mX8_meanOfNuts : ZM := (yX8_meanOfNuts, cX8_meanOfNuts, 6, none)
set_option maxRecDepth 20000 in
theorem oX8_meanOfNuts : zOk mX8_meanOfNuts 2 := ⟨zT_of 831 rfl rfl, iniX8, by decide +kernel, by decide +kernel, by decide +kernel⟩
set_option maxRecDepth 20000 in
theorem kX8_meanOfNuts : zVirt mX8_meanOfNuts := ⟨zT_of 830 rfl rfl, zT_of 25 rfl rfl⟩
abbrev mX8_lend : ZM := (yX8_lend, cX8_lend, 4, some (.int))
set_option maxRecDepth 20000 in
theorem oX8_lend : zOk mX8_lend 3 := ⟨zT_of 835 rfl rfl, iniX8, by decide +kernel, by decide +kernel, by decide +kernel⟩
set_option maxRecDepth 20000 in
theorem kX8_lend : zVirt mX8_lend := ⟨zT_of 833 rfl rfl, zT_of 834 rfl rfl⟩
abbrev mX1_addTale : ZM := (yX1_addTale, cX1_addTale, 4, some (.int))
set_option maxRecDepth 20000 in
theorem oX1_addTale : zOk mX1_addTale 3 := ⟨zT_of 839 rfl rfl, iniX1, by decide +kernel, by decide +kernel, by decide +kernel⟩
set_option maxRecDepth 20000 in
theorem kX1_addTale : zVirt mX1_addTale := ⟨zT_of 837 rfl rfl, zT_of 838 rfl rfl⟩
abbrev mX8_has : ZM := (yX8_has, cX8_has, 2, some (.int))
set_option maxRecDepth 20000 in
theorem oX8_has : zOk mX8_has 1 := ⟨zT_of 843 rfl rfl, iniX8, by decide +kernel, by decide +kernel, by decide +kernel⟩
set_option maxRecDepth 20000 in
theorem kX8_has : zVirt mX8_has := ⟨zT_of 841 rfl rfl, zT_of 842 rfl rfl⟩
abbrev mX1_holderAfter : ZM := (yX1_holderAfter, cX1_holderAfter, 5, some (.int))
set_option maxRecDepth 20000 in
theorem oX1_holderAfter : zOk mX1_holderAfter 2 := ⟨zT_of 847 rfl rfl, iniX1, by decide +kernel, by decide +kernel, by decide +kernel⟩
set_option maxRecDepth 20000 in
theorem kX1_holderAfter : zVirt mX1_holderAfter := ⟨zT_of 845 rfl rfl, zT_of 846 rfl rfl⟩
abbrev mX8_wrong : ZM := (yX8_wrong, cX8_wrong, 1, some (.int))
set_option maxRecDepth 20000 in
theorem oX8_wrong : zOk mX8_wrong 0 := ⟨zT_of 851 rfl rfl, iniX8, by decide +kernel, by decide +kernel, by decide +kernel⟩
set_option maxRecDepth 20000 in
theorem kX8_wrong : zVirt mX8_wrong := ⟨zT_of 849 rfl rfl, zT_of 850 rfl rfl⟩
abbrev mX1_firstWrongTale : ZM := (yX1_firstWrongTale, cX1_firstWrongTale, 2, some (.int))
set_option maxRecDepth 20000 in
theorem oX1_firstWrongTale : zOk mX1_firstWrongTale 0 := ⟨zT_of 855 rfl rfl, iniX1, by decide +kernel, by decide +kernel, by decide +kernel⟩
set_option maxRecDepth 20000 in
theorem kX1_firstWrongTale : zVirt mX1_firstWrongTale := ⟨zT_of 853 rfl rfl, zT_of 854 rfl rfl⟩
abbrev mX8_hint : ZM := (yX8_hint, cX8_hint, 4, some (.int))
set_option maxRecDepth 20000 in
theorem oX8_hint : zOk mX8_hint 3 := ⟨zT_of 860 rfl rfl, iniX8, by decide +kernel, by decide +kernel, by decide +kernel⟩
set_option maxRecDepth 20000 in
theorem kX8_hint : zVirt mX8_hint := ⟨zT_of 858 rfl rfl, zT_of 859 rfl rfl⟩
abbrev mX1_addHint : ZM := (yX1_addHint, cX1_addHint, 4, some (.int))
set_option maxRecDepth 20000 in
theorem oX1_addHint : zOk mX1_addHint 3 := ⟨zT_of 864 rfl rfl, iniX1, by decide +kernel, by decide +kernel, by decide +kernel⟩
set_option maxRecDepth 20000 in
theorem kX1_addHint : zVirt mX1_addHint := ⟨zT_of 862 rfl rfl, zT_of 863 rfl rfl⟩
abbrev mX8_forget : ZM := (yX8_forget, cX8_forget, 2, some (.int))
set_option maxRecDepth 20000 in
theorem oX8_forget : zOk mX8_forget 1 := ⟨zT_of 868 rfl rfl, iniX8, by decide +kernel, by decide +kernel, by decide +kernel⟩
set_option maxRecDepth 20000 in
theorem kX8_forget : zVirt mX8_forget := ⟨zT_of 866 rfl rfl, zT_of 867 rfl rfl⟩
abbrev mX8_labels : ZM := (yX8_labels, cX8_labels, 4, some (.int))
set_option maxRecDepth 20000 in
theorem oX8_labels : zOk mX8_labels 2 := ⟨zT_of 873 rfl rfl, iniX8, by decide +kernel, by decide +kernel, by decide +kernel⟩
set_option maxRecDepth 20000 in
theorem kX8_labels : zVirt mX8_labels := ⟨zT_of 871 rfl rfl, zT_of 872 rfl rfl⟩
abbrev mX2_lookAt : ZM := (yX2_lookAt, cX2_lookAt, 4, none)
set_option maxRecDepth 20000 in
theorem oX2_lookAt : zOk mX2_lookAt 1 := ⟨zT_of 877 rfl rfl, iniX2, by decide +kernel, by decide +kernel, by decide +kernel⟩
set_option maxRecDepth 20000 in
theorem kX2_lookAt : zVirt mX2_lookAt := ⟨zT_of 875 rfl rfl, zT_of 876 rfl rfl⟩
abbrev mX2_heed : ZM := (yX2_heed, cX2_heed, 4, none)
set_option maxRecDepth 20000 in
theorem oX2_heed : zOk mX2_heed 3 := ⟨zT_of 884 rfl rfl, iniX2, by decide +kernel, by decide +kernel, by decide +kernel⟩
set_option maxRecDepth 20000 in
theorem kX2_heed : zVirt mX2_heed := ⟨zT_of 883 rfl rfl, zT_of 26 rfl rfl⟩
abbrev mJ7_fill_53178 : ZM := (yJ7_fill_53178, cJ7_fill_53178, 4, none)
set_option maxRecDepth 20000 in
theorem oJ7_fill_53178 : zOk mJ7_fill_53178 2 := ⟨zT_of 888 rfl rfl, iniJ7, by decide +kernel, by decide +kernel, by decide +kernel⟩
set_option maxRecDepth 20000 in
theorem kJ7_fill_53178 : zStat mJ7_fill_53178 := zT_of 887 rfl rfl
abbrev mX2_waysFrom : ZM := (yX2_waysFrom, cX2_waysFrom, 6, some (.int))
set_option maxRecDepth 20000 in
theorem oX2_waysFrom : zOk mX2_waysFrom 3 := ⟨zT_of 891 rfl rfl, iniX2, by decide +kernel, by decide +kernel, by decide +kernel⟩
set_option maxRecDepth 20000 in
theorem kX2_waysFrom : zStat mX2_waysFrom := zT_of 890 rfl rfl
abbrev mX2_mayBeIn : ZM := (yX2_mayBeIn, cX2_mayBeIn, 4, some (.boolean))
set_option maxRecDepth 20000 in
theorem oX2_mayBeIn : zOk mX2_mayBeIn 3 := ⟨zT_of 895 rfl rfl, iniX2, by decide +kernel, by decide +kernel, by decide +kernel⟩
set_option maxRecDepth 20000 in
theorem kX2_mayBeIn : zVirt mX2_mayBeIn := ⟨zT_of 894 rfl rfl, zT_of 27 rfl rfl⟩
abbrev mX2_agreesBySize : ZM := (yX2_agreesBySize, cX2_agreesBySize, 10, some (.boolean))
set_option maxRecDepth 20000 in
theorem oX2_agreesBySize : zOk mX2_agreesBySize 3 := ⟨zT_of 899 rfl rfl, iniX2, by decide +kernel, by decide +kernel, by decide +kernel⟩
set_option maxRecDepth 20000 in
theorem kX2_agreesBySize : zVirt mX2_agreesBySize := ⟨zT_of 898 rfl rfl, zT_of 28 rfl rfl⟩
abbrev mX2_sizeAt : ZM := (yX2_sizeAt, cX2_sizeAt, 2, some (.int))
set_option maxRecDepth 20000 in
theorem oX2_sizeAt : zOk mX2_sizeAt 1 := ⟨zT_of 903 rfl rfl, iniX2, by decide +kernel, by decide +kernel, by decide +kernel⟩
set_option maxRecDepth 20000 in
theorem kX2_sizeAt : zVirt mX2_sizeAt := ⟨zT_of 902 rfl rfl, zT_of 29 rfl rfl⟩
abbrev mX2_allWays : ZM := (yX2_allWays, cX2_allWays, 1, some (.int))
set_option maxRecDepth 20000 in
theorem oX2_allWays : zOk mX2_allWays 0 := ⟨zT_of 907 rfl rfl, iniX2, by decide +kernel, by decide +kernel, by decide +kernel⟩
set_option maxRecDepth 20000 in
theorem kX2_allWays : zVirt mX2_allWays := ⟨zT_of 905 rfl rfl, zT_of 906 rfl rfl⟩
abbrev mX2_boxesOf : ZM := (yX2_boxesOf, cX2_boxesOf, 4, some (.int))
set_option maxRecDepth 20000 in
theorem oX2_boxesOf : zOk mX2_boxesOf 1 := ⟨zT_of 911 rfl rfl, iniX2, by decide +kernel, by decide +kernel, by decide +kernel⟩
set_option maxRecDepth 20000 in
theorem kX2_boxesOf : zVirt mX2_boxesOf := ⟨zT_of 909 rfl rfl, zT_of 910 rfl rfl⟩
abbrev mX2_waysWith : ZM := (yX2_waysWith, cX2_waysWith, 4, some (.int))
set_option maxRecDepth 20000 in
theorem oX2_waysWith : zOk mX2_waysWith 2 := ⟨zT_of 915 rfl rfl, iniX2, by decide +kernel, by decide +kernel, by decide +kernel⟩
set_option maxRecDepth 20000 in
theorem kX2_waysWith : zVirt mX2_waysWith := ⟨zT_of 914 rfl rfl, zT_of 30 rfl rfl⟩
abbrev mX2_boxToOpen : ZM := (yX2_boxToOpen, cX2_boxToOpen, 5, some (.int))
set_option maxRecDepth 20000 in
theorem oX2_boxToOpen : zOk mX2_boxToOpen 0 := ⟨zT_of 919 rfl rfl, iniX2, by decide +kernel, by decide +kernel, by decide +kernel⟩
set_option maxRecDepth 20000 in
theorem kX2_boxToOpen : zVirt mX2_boxToOpen := ⟨zT_of 917 rfl rfl, zT_of 918 rfl rfl⟩
abbrev mX2_worstBehind : ZM := (yX2_worstBehind, cX2_worstBehind, 4, some (.int))
set_option maxRecDepth 20000 in
theorem oX2_worstBehind : zOk mX2_worstBehind 1 := ⟨zT_of 924 rfl rfl, iniX2, by decide +kernel, by decide +kernel, by decide +kernel⟩
set_option maxRecDepth 20000 in
theorem kX2_worstBehind : zVirt mX2_worstBehind := ⟨zT_of 923 rfl rfl, zT_of 31 rfl rfl⟩
abbrev mX8_evening : ZM := (yX8_evening, cX8_evening, 3, some (.int))
set_option maxRecDepth 20000 in
theorem oX8_evening : zOk mX8_evening 2 := ⟨zT_of 929 rfl rfl, iniX8, by decide +kernel, by decide +kernel, by decide +kernel⟩
set_option maxRecDepth 20000 in
theorem kX8_evening : zVirt mX8_evening := ⟨zT_of 927 rfl rfl, zT_of 928 rfl rfl⟩
abbrev mX1_openAfter : ZM := (yX1_openAfter, cX1_openAfter, 12, some (.int))
set_option maxRecDepth 20000 in
theorem oX1_openAfter : zOk mX1_openAfter 2 := ⟨zT_of 934 rfl rfl, iniX1, by decide +kernel, by decide +kernel, by decide +kernel⟩
set_option maxRecDepth 20000 in
theorem kX1_openAfter : zVirt mX1_openAfter := ⟨zT_of 932 rfl rfl, zT_of 933 rfl rfl⟩
abbrev mJ6_lowestOneBit_0f7a4 : ZM := (yJ6_lowestOneBit_0f7a4, cJ6_lowestOneBit_0f7a4, 1, some (.int))
set_option maxRecDepth 20000 in
theorem oJ6_lowestOneBit_0f7a4 : zOk mJ6_lowestOneBit_0f7a4 1 := ⟨zT_of 942 rfl rfl, iniJ6, by decide +kernel, by decide +kernel, by decide +kernel⟩
set_option maxRecDepth 20000 in
theorem kJ6_lowestOneBit_0f7a4 : zStat mJ6_lowestOneBit_0f7a4 := zT_of 941 rfl rfl
abbrev mX8_part : ZM := (yX8_part, cX8_part, 2, some (.long))
set_option maxRecDepth 20000 in
theorem oX8_part : zOk mX8_part 1 := ⟨zT_of 946 rfl rfl, iniX8, by decide +kernel, by decide +kernel, by decide +kernel⟩
set_option maxRecDepth 20000 in
theorem kX8_part : zVirt mX8_part := ⟨zT_of 944 rfl rfl, zT_of 945 rfl rfl⟩
abbrev mX8_image : ZM := (yX8_image, cX8_image, 2, some (.int))
set_option maxRecDepth 20000 in
theorem oX8_image : zOk mX8_image 1 := ⟨zT_of 950 rfl rfl, iniX8, by decide +kernel, by decide +kernel, by decide +kernel⟩
set_option maxRecDepth 20000 in
theorem kX8_image : zVirt mX8_image := ⟨zT_of 948 rfl rfl, zT_of 949 rfl rfl⟩
abbrev mX8_imageAt : ZM := (yX8_imageAt, cX8_imageAt, 2, some (.object "LidForEach$Cupboard"))
set_option maxRecDepth 20000 in
theorem oX8_imageAt : zOk mX8_imageAt 1 := ⟨zT_of 954 rfl rfl, iniX8, by decide +kernel, by decide +kernel, by decide +kernel⟩
set_option maxRecDepth 20000 in
theorem kX8_imageAt : zVirt mX8_imageAt := ⟨zT_of 953 rfl rfl, zT_of 32 rfl rfl⟩
abbrev mX8_from : ZM := (yX8_from, cX8_from, 2, some (.int))
set_option maxRecDepth 20000 in
theorem oX8_from : zOk mX8_from 1 := ⟨zT_of 958 rfl rfl, iniX8, by decide +kernel, by decide +kernel, by decide +kernel⟩
set_option maxRecDepth 20000 in
theorem kX8_from : zVirt mX8_from := ⟨zT_of 956 rfl rfl, zT_of 957 rfl rfl⟩
abbrev mX8_status : ZM := (yX8_status, cX8_status, 2, some (.int))
set_option maxRecDepth 20000 in
theorem oX8_status : zOk mX8_status 1 := ⟨zT_of 962 rfl rfl, iniX8, by decide +kernel, by decide +kernel, by decide +kernel⟩
set_option maxRecDepth 20000 in
theorem kX8_status : zVirt mX8_status := ⟨zT_of 960 rfl rfl, zT_of 961 rfl rfl⟩
abbrev mX8_count : ZM := (yX8_count, cX8_count, 2, some (.int))
set_option maxRecDepth 20000 in
theorem oX8_count : zOk mX8_count 1 := ⟨zT_of 966 rfl rfl, iniX8, by decide +kernel, by decide +kernel, by decide +kernel⟩
set_option maxRecDepth 20000 in
theorem kX8_count : zVirt mX8_count := ⟨zT_of 964 rfl rfl, zT_of 965 rfl rfl⟩
abbrev mX8_howMany : ZM := (yX8_howMany, cX8_howMany, 2, some (.int))
set_option maxRecDepth 20000 in
theorem oX8_howMany : zOk mX8_howMany 1 := ⟨zT_of 970 rfl rfl, iniX8, by decide +kernel, by decide +kernel, by decide +kernel⟩
set_option maxRecDepth 20000 in
theorem kX8_howMany : zVirt mX8_howMany := ⟨zT_of 969 rfl rfl, zT_of 33 rfl rfl⟩
abbrev mX1_lidsInUse : ZM := (yX1_lidsInUse, cX1_lidsInUse, 3, some (.int))
set_option maxRecDepth 20000 in
theorem oX1_lidsInUse : zOk mX1_lidsInUse 0 := ⟨zT_of 974 rfl rfl, iniX1, by decide +kernel, by decide +kernel, by decide +kernel⟩
set_option maxRecDepth 20000 in
theorem kX1_lidsInUse : zVirt mX1_lidsInUse := ⟨zT_of 972 rfl rfl, zT_of 973 rfl rfl⟩
abbrev mX7_size : ZM := (yX7_size, cX7_size, 1, some (.int))
set_option maxRecDepth 20000 in
theorem oX7_size : zOk mX7_size 0 := ⟨zT_of 978 rfl rfl, iniX7, by decide +kernel, by decide +kernel, by decide +kernel⟩
set_option maxRecDepth 20000 in
theorem kX7_size : zVirt mX7_size := ⟨zT_of 976 rfl rfl, zT_of 977 rfl rfl⟩
abbrev mX8_digest : ZM := (yX8_digest, cX8_digest, 4, some (.long))
set_option maxRecDepth 20000 in
theorem oX8_digest : zOk mX8_digest 0 := ⟨zT_of 982 rfl rfl, iniX8, by decide +kernel, by decide +kernel, by decide +kernel⟩
set_option maxRecDepth 20000 in
theorem kX8_digest : zVirt mX8_digest := ⟨zT_of 980 rfl rfl, zT_of 981 rfl rfl⟩
abbrev mX6_mixedInto : ZM := (yX6_mixedInto, cX6_mixedInto, 5, some (.long))
set_option maxRecDepth 20000 in
theorem oX6_mixedInto : zOk mX6_mixedInto 1 := ⟨zT_of 988 rfl rfl, iniX6, by decide +kernel, by decide +kernel, by decide +kernel⟩
set_option maxRecDepth 20000 in
theorem kX6_mixedInto : zVirt mX6_mixedInto := ⟨zT_of 986 rfl rfl, zT_of 987 rfl rfl⟩
abbrev mX9_init : ZM := (yX9_init, cX9_init, 1, none)
set_option maxRecDepth 20000 in
theorem oX9_init : zOk mX9_init 0 := ⟨zT_of 995 rfl rfl, iniX9, by decide +kernel, by decide +kernel, by decide +kernel⟩
set_option maxRecDepth 20000 in
theorem kX9_init : zCtor mX9_init := ⟨rfl, zT_of 994 rfl rfl, rfl⟩
abbrev mX9_box : ZM := (yX9_box, cX9_box, 4, some (.int))
set_option maxRecDepth 20000 in
theorem oX9_box : zOk mX9_box 3 := ⟨zT_of 1073 rfl rfl, iniX9, by decide +kernel, by decide +kernel, by decide +kernel⟩
set_option maxRecDepth 20000 in
theorem kX9_box : zVirt mX9_box := ⟨zT_of 1071 rfl rfl, zT_of 1072 rfl rfl⟩
abbrev mX9_addBox : ZM := (yX9_addBox, cX9_addBox, 5, some (.int))
set_option maxRecDepth 20000 in
theorem oX9_addBox : zOk mX9_addBox 3 := ⟨zT_of 1077 rfl rfl, iniX9, by decide +kernel, by decide +kernel, by decide +kernel⟩
set_option maxRecDepth 20000 in
theorem kX9_addBox : zVirt mX9_addBox := ⟨zT_of 1076 rfl rfl, zT_of 34 rfl rfl⟩
abbrev mX9_in : ZM := (yX9_in, cX9_in, 3, some (.boolean))
set_option maxRecDepth 20000 in
theorem oX9_in : zOk mX9_in 3 := ⟨zT_of 1080 rfl rfl, iniX9, by decide +kernel, by decide +kernel, by decide +kernel⟩
set_option maxRecDepth 20000 in
theorem kX9_in : zStat mX9_in := zT_of 1079 rfl rfl
abbrev mX9_get : ZM := (yX9_get, cX9_get, 2, some (.int))
set_option maxRecDepth 20000 in
theorem oX9_get : zOk mX9_get 1 := ⟨zT_of 1084 rfl rfl, iniX9, by decide +kernel, by decide +kernel, by decide +kernel⟩
set_option maxRecDepth 20000 in
theorem kX9_get : zVirt mX9_get := ⟨zT_of 1083 rfl rfl, zT_of 35 rfl rfl⟩
abbrev mX9_put1 : ZM := (yX9_put1, cX9_put1, 3, none)
set_option maxRecDepth 20000 in
theorem oX9_put1 : zOk mX9_put1 2 := ⟨zT_of 1088 rfl rfl, iniX9, by decide +kernel, by decide +kernel, by decide +kernel⟩
set_option maxRecDepth 20000 in
theorem kX9_put1 : zVirt mX9_put1 := ⟨zT_of 1087 rfl rfl, zT_of 36 rfl rfl⟩
abbrev mX9_told : ZM := (yX9_told, cX9_told, 2, some (.int))
set_option maxRecDepth 20000 in
theorem oX9_told : zOk mX9_told 1 := ⟨zT_of 1092 rfl rfl, iniX9, by decide +kernel, by decide +kernel, by decide +kernel⟩
set_option maxRecDepth 20000 in
theorem kX9_told : zVirt mX9_told := ⟨zT_of 1091 rfl rfl, zT_of 37 rfl rfl⟩
abbrev mX9_lid : ZM := (yX9_lid, cX9_lid, 4, some (.int))
set_option maxRecDepth 20000 in
theorem oX9_lid : zOk mX9_lid 3 := ⟨zT_of 1096 rfl rfl, iniX9, by decide +kernel, by decide +kernel, by decide +kernel⟩
set_option maxRecDepth 20000 in
theorem kX9_lid : zVirt mX9_lid := ⟨zT_of 1094 rfl rfl, zT_of 1095 rfl rfl⟩
abbrev mX9_addLid : ZM := (yX9_addLid, cX9_addLid, 5, some (.int))
set_option maxRecDepth 20000 in
theorem oX9_addLid : zOk mX9_addLid 3 := ⟨zT_of 1100 rfl rfl, iniX9, by decide +kernel, by decide +kernel, by decide +kernel⟩
set_option maxRecDepth 20000 in
theorem kX9_addLid : zVirt mX9_addLid := ⟨zT_of 1099 rfl rfl, zT_of 38 rfl rfl⟩
abbrev mX9_put : ZM := (yX9_put, cX9_put, 3, some (.int))
set_option maxRecDepth 20000 in
theorem oX9_put : zOk mX9_put 2 := ⟨zT_of 1104 rfl rfl, iniX9, by decide +kernel, by decide +kernel, by decide +kernel⟩
set_option maxRecDepth 20000 in
theorem kX9_put : zVirt mX9_put := ⟨zT_of 1102 rfl rfl, zT_of 1103 rfl rfl⟩
abbrev mX9_putOn : ZM := (yX9_putOn, cX9_putOn, 3, some (.int))
set_option maxRecDepth 20000 in
theorem oX9_putOn : zOk mX9_putOn 2 := ⟨zT_of 1108 rfl rfl, iniX9, by decide +kernel, by decide +kernel, by decide +kernel⟩
set_option maxRecDepth 20000 in
theorem kX9_putOn : zVirt mX9_putOn := ⟨zT_of 1107 rfl rfl, zT_of 39 rfl rfl⟩
abbrev mX9_isLid : ZM := (yX9_isLid, cX9_isLid, 2, some (.boolean))
set_option maxRecDepth 20000 in
theorem oX9_isLid : zOk mX9_isLid 1 := ⟨zT_of 1112 rfl rfl, iniX9, by decide +kernel, by decide +kernel, by decide +kernel⟩
set_option maxRecDepth 20000 in
theorem kX9_isLid : zVirt mX9_isLid := ⟨zT_of 1111 rfl rfl, zT_of 40 rfl rfl⟩
abbrev mX9_isBox : ZM := (yX9_isBox, cX9_isBox, 2, some (.boolean))
set_option maxRecDepth 20000 in
theorem oX9_isBox : zOk mX9_isBox 1 := ⟨zT_of 1116 rfl rfl, iniX9, by decide +kernel, by decide +kernel, by decide +kernel⟩
set_option maxRecDepth 20000 in
theorem kX9_isBox : zVirt mX9_isBox := ⟨zT_of 1115 rfl rfl, zT_of 41 rfl rfl⟩
abbrev mX9_doesFit : ZM := (yX9_doesFit, cX9_doesFit, 3, some (.boolean))
set_option maxRecDepth 20000 in
theorem oX9_doesFit : zOk mX9_doesFit 2 := ⟨zT_of 1120 rfl rfl, iniX9, by decide +kernel, by decide +kernel, by decide +kernel⟩
set_option maxRecDepth 20000 in
theorem kX9_doesFit : zVirt mX9_doesFit := ⟨zT_of 1119 rfl rfl, zT_of 42 rfl rfl⟩
abbrev mX9_ofLid : ZM := (yX9_ofLid, cX9_ofLid, 3, some (.int))
set_option maxRecDepth 20000 in
theorem oX9_ofLid : zOk mX9_ofLid 2 := ⟨zT_of 1124 rfl rfl, iniX9, by decide +kernel, by decide +kernel, by decide +kernel⟩
set_option maxRecDepth 20000 in
theorem kX9_ofLid : zVirt mX9_ofLid := ⟨zT_of 1123 rfl rfl, zT_of 43 rfl rfl⟩
abbrev mX9_fitsAs : ZM := (yX9_fitsAs, cX9_fitsAs, 9, some (.boolean))
set_option maxRecDepth 20000 in
theorem oX9_fitsAs : zOk mX9_fitsAs 4 := ⟨zT_of 1128 rfl rfl, iniX9, by decide +kernel, by decide +kernel, by decide +kernel⟩
set_option maxRecDepth 20000 in
theorem kX9_fitsAs : zVirt mX9_fitsAs := ⟨zT_of 1127 rfl rfl, zT_of 44 rfl rfl⟩
abbrev mX9_ofBox : ZM := (yX9_ofBox, cX9_ofBox, 3, some (.int))
set_option maxRecDepth 20000 in
theorem oX9_ofBox : zOk mX9_ofBox 2 := ⟨zT_of 1132 rfl rfl, iniX9, by decide +kernel, by decide +kernel, by decide +kernel⟩
set_option maxRecDepth 20000 in
theorem kX9_ofBox : zVirt mX9_ofBox := ⟨zT_of 1131 rfl rfl, zT_of 45 rfl rfl⟩
abbrev mX9_isPlain : ZM := (yX9_isPlain, cX9_isPlain, 4, some (.boolean))
set_option maxRecDepth 20000 in
theorem oX9_isPlain : zOk mX9_isPlain 3 := ⟨zT_of 1136 rfl rfl, iniX9, by decide +kernel, by decide +kernel, by decide +kernel⟩
set_option maxRecDepth 20000 in
theorem kX9_isPlain : zVirt mX9_isPlain := ⟨zT_of 1135 rfl rfl, zT_of 46 rfl rfl⟩
abbrev mX9_boxOf : ZM := (yX9_boxOf, cX9_boxOf, 4, some (.int))
set_option maxRecDepth 20000 in
theorem oX9_boxOf : zOk mX9_boxOf 1 := ⟨zT_of 1140 rfl rfl, iniX9, by decide +kernel, by decide +kernel, by decide +kernel⟩
set_option maxRecDepth 20000 in
theorem kX9_boxOf : zVirt mX9_boxOf := ⟨zT_of 1139 rfl rfl, zT_of 47 rfl rfl⟩
abbrev mX9_know : ZM := (yX9_know, cX9_know, 2, none)
set_option maxRecDepth 20000 in
theorem oX9_know : zOk mX9_know 0 := ⟨zT_of 1144 rfl rfl, iniX9, by decide +kernel, by decide +kernel, by decide +kernel⟩
set_option maxRecDepth 20000 in
theorem kX9_know : zVirt mX9_know := ⟨zT_of 1143 rfl rfl, zT_of 48 rfl rfl⟩
abbrev mX9_off : ZM := (yX9_off, cX9_off, 3, some (.int))
set_option maxRecDepth 20000 in
theorem oX9_off : zOk mX9_off 1 := ⟨zT_of 1148 rfl rfl, iniX9, by decide +kernel, by decide +kernel, by decide +kernel⟩
set_option maxRecDepth 20000 in
theorem kX9_off : zVirt mX9_off := ⟨zT_of 1146 rfl rfl, zT_of 1147 rfl rfl⟩
abbrev mX9_undo : ZM := (yX9_undo, cX9_undo, 2, some (.int))
set_option maxRecDepth 20000 in
theorem oX9_undo : zOk mX9_undo 0 := ⟨zT_of 1152 rfl rfl, iniX9, by decide +kernel, by decide +kernel, by decide +kernel⟩
set_option maxRecDepth 20000 in
theorem kX9_undo : zVirt mX9_undo := ⟨zT_of 1150 rfl rfl, zT_of 1151 rfl rfl⟩
abbrev mX9_on : ZM := (yX9_on, cX9_on, 2, some (.int))
set_option maxRecDepth 20000 in
theorem oX9_on : zOk mX9_on 1 := ⟨zT_of 1156 rfl rfl, iniX9, by decide +kernel, by decide +kernel, by decide +kernel⟩
set_option maxRecDepth 20000 in
theorem kX9_on : zVirt mX9_on := ⟨zT_of 1154 rfl rfl, zT_of 1155 rfl rfl⟩
abbrev mX9_bad10 : ZM := (yX9_bad10, cX9_bad10, 1, some (.int))
set_option maxRecDepth 20000 in
theorem oX9_bad10 : zOk mX9_bad10 0 := ⟨zT_of 1160 rfl rfl, iniX9, by decide +kernel, by decide +kernel, by decide +kernel⟩
set_option maxRecDepth 20000 in
theorem kX9_bad10 : zVirt mX9_bad10 := ⟨zT_of 1159 rfl rfl, zT_of 49 rfl rfl⟩
abbrev mX9_grasp : ZM := (yX9_grasp, cX9_grasp, 3, some (.int))
set_option maxRecDepth 20000 in
theorem oX9_grasp : zOk mX9_grasp 2 := ⟨zT_of 1164 rfl rfl, iniX9, by decide +kernel, by decide +kernel, by decide +kernel⟩
set_option maxRecDepth 20000 in
theorem kX9_grasp : zVirt mX9_grasp := ⟨zT_of 1162 rfl rfl, zT_of 1163 rfl rfl⟩
abbrev mX9_setGrasp : ZM := (yX9_setGrasp, cX9_setGrasp, 4, some (.int))
set_option maxRecDepth 20000 in
theorem oX9_setGrasp : zOk mX9_setGrasp 2 := ⟨zT_of 1168 rfl rfl, iniX9, by decide +kernel, by decide +kernel, by decide +kernel⟩
set_option maxRecDepth 20000 in
theorem kX9_setGrasp : zVirt mX9_setGrasp := ⟨zT_of 1167 rfl rfl, zT_of 50 rfl rfl⟩
abbrev mX9_sort : ZM := (yX9_sort, cX9_sort, 5, some (.int))
set_option maxRecDepth 20000 in
theorem oX9_sort : zOk mX9_sort 4 := ⟨zT_of 1172 rfl rfl, iniX9, by decide +kernel, by decide +kernel, by decide +kernel⟩
set_option maxRecDepth 20000 in
theorem kX9_sort : zVirt mX9_sort := ⟨zT_of 1170 rfl rfl, zT_of 1171 rfl rfl⟩
abbrev mX9_addSort : ZM := (yX9_addSort, cX9_addSort, 6, some (.int))
set_option maxRecDepth 20000 in
theorem oX9_addSort : zOk mX9_addSort 4 := ⟨zT_of 1176 rfl rfl, iniX9, by decide +kernel, by decide +kernel, by decide +kernel⟩
set_option maxRecDepth 20000 in
theorem kX9_addSort : zVirt mX9_addSort := ⟨zT_of 1175 rfl rfl, zT_of 51 rfl rfl⟩
abbrev mX9_eye : ZM := (yX9_eye, cX9_eye, 4, some (.int))
set_option maxRecDepth 20000 in
theorem oX9_eye : zOk mX9_eye 2 := ⟨zT_of 1180 rfl rfl, iniX9, by decide +kernel, by decide +kernel, by decide +kernel⟩
set_option maxRecDepth 20000 in
theorem kX9_eye : zVirt mX9_eye := ⟨zT_of 1178 rfl rfl, zT_of 1179 rfl rfl⟩
abbrev mX9_type : ZM := (yX9_type, cX9_type, 2, some (.int))
set_option maxRecDepth 20000 in
theorem oX9_type : zOk mX9_type 1 := ⟨zT_of 1184 rfl rfl, iniX9, by decide +kernel, by decide +kernel, by decide +kernel⟩
set_option maxRecDepth 20000 in
theorem kX9_type : zVirt mX9_type := ⟨zT_of 1182 rfl rfl, zT_of 1183 rfl rfl⟩
abbrev mX9_clear : ZM := (yX9_clear, cX9_clear, 2, some (.int))
set_option maxRecDepth 20000 in
theorem oX9_clear : zOk mX9_clear 0 := ⟨zT_of 1188 rfl rfl, iniX9, by decide +kernel, by decide +kernel, by decide +kernel⟩
set_option maxRecDepth 20000 in
theorem kX9_clear : zVirt mX9_clear := ⟨zT_of 1186 rfl rfl, zT_of 1187 rfl rfl⟩
abbrev mX9_read : ZM := (yX9_read, cX9_read, 5, some (.int))
set_option maxRecDepth 20000 in
theorem oX9_read : zOk mX9_read 0 := ⟨zT_of 1192 rfl rfl, iniX9, by decide +kernel, by decide +kernel, by decide +kernel⟩
set_option maxRecDepth 20000 in
theorem kX9_read : zVirt mX9_read := ⟨zT_of 1190 rfl rfl, zT_of 1191 rfl rfl⟩
abbrev mX9_next : ZM := (yX9_next, cX9_next, 3, none)
set_option maxRecDepth 20000 in
theorem oX9_next : zOk mX9_next 0 := ⟨zT_of 1196 rfl rfl, iniX9, by decide +kernel, by decide +kernel, by decide +kernel⟩
set_option maxRecDepth 20000 in
theorem kX9_next : zVirt mX9_next := ⟨zT_of 1195 rfl rfl, zT_of 52 rfl rfl⟩
abbrev mX9_here : ZM := (yX9_here, cX9_here, 1, some (.int))
set_option maxRecDepth 20000 in
theorem oX9_here : zOk mX9_here 0 := ⟨zT_of 1200 rfl rfl, iniX9, by decide +kernel, by decide +kernel, by decide +kernel⟩
set_option maxRecDepth 20000 in
theorem kX9_here : zVirt mX9_here := ⟨zT_of 1199 rfl rfl, zT_of 53 rfl rfl⟩
abbrev mX9_meaning : ZM := (yX9_meaning, cX9_meaning, 1, some (.int))
set_option maxRecDepth 20000 in
theorem oX9_meaning : zOk mX9_meaning 1 := ⟨zT_of 1203 rfl rfl, iniX9, by decide +kernel, by decide +kernel, by decide +kernel⟩
set_option maxRecDepth 20000 in
theorem kX9_meaning : zStat mX9_meaning := zT_of 1202 rfl rfl
abbrev mX9_due : ZM := (yX9_due, cX9_due, 2, none)
set_option maxRecDepth 20000 in
theorem oX9_due : zOk mX9_due 1 := ⟨zT_of 1207 rfl rfl, iniX9, by decide +kernel, by decide +kernel, by decide +kernel⟩
set_option maxRecDepth 20000 in
theorem kX9_due : zVirt mX9_due := ⟨zT_of 1206 rfl rfl, zT_of 54 rfl rfl⟩
abbrev mX9_doItem : ZM := (yX9_doItem, cX9_doItem, 2, some (.int))
set_option maxRecDepth 20000 in
theorem oX9_doItem : zOk mX9_doItem 1 := ⟨zT_of 1211 rfl rfl, iniX9, by decide +kernel, by decide +kernel, by decide +kernel⟩
set_option maxRecDepth 20000 in
theorem kX9_doItem : zVirt mX9_doItem := ⟨zT_of 1210 rfl rfl, zT_of 55 rfl rfl⟩
abbrev mX9_copy : ZM := (yX9_copy, cX9_copy, 4, none)
set_option maxRecDepth 20000 in
theorem oX9_copy : zOk mX9_copy 2 := ⟨zT_of 1215 rfl rfl, iniX9, by decide +kernel, by decide +kernel, by decide +kernel⟩
set_option maxRecDepth 20000 in
theorem kX9_copy : zVirt mX9_copy := ⟨zT_of 1214 rfl rfl, zT_of 56 rfl rfl⟩
abbrev mX9_fits : ZM := (yX9_fits, cX9_fits, 2, some (.int))
set_option maxRecDepth 20000 in
theorem oX9_fits : zOk mX9_fits 1 := ⟨zT_of 1219 rfl rfl, iniX9, by decide +kernel, by decide +kernel, by decide +kernel⟩
set_option maxRecDepth 20000 in
theorem kX9_fits : zVirt mX9_fits := ⟨zT_of 1217 rfl rfl, zT_of 1218 rfl rfl⟩
abbrev mX9_findFits : ZM := (yX9_findFits, cX9_findFits, 3, none)
set_option maxRecDepth 20000 in
theorem oX9_findFits : zOk mX9_findFits 0 := ⟨zT_of 1223 rfl rfl, iniX9, by decide +kernel, by decide +kernel, by decide +kernel⟩
set_option maxRecDepth 20000 in
theorem kX9_findFits : zVirt mX9_findFits := ⟨zT_of 1222 rfl rfl, zT_of 57 rfl rfl⟩
abbrev mX9_most : ZM := (yX9_most, cX9_most, 3, some (.int))
set_option maxRecDepth 20000 in
theorem oX9_most : zOk mX9_most 1 := ⟨zT_of 1227 rfl rfl, iniX9, by decide +kernel, by decide +kernel, by decide +kernel⟩
set_option maxRecDepth 20000 in
theorem kX9_most : zVirt mX9_most := ⟨zT_of 1225 rfl rfl, zT_of 1226 rfl rfl⟩
abbrev mX9_boxes : ZM := (yX9_boxes, cX9_boxes, 1, some (.int))
set_option maxRecDepth 20000 in
theorem oX9_boxes : zOk mX9_boxes 0 := ⟨zT_of 1231 rfl rfl, iniX9, by decide +kernel, by decide +kernel, by decide +kernel⟩
set_option maxRecDepth 20000 in
theorem kX9_boxes : zVirt mX9_boxes := ⟨zT_of 1230 rfl rfl, zT_of 58 rfl rfl⟩
abbrev mX9_lids : ZM := (yX9_lids, cX9_lids, 1, some (.int))
set_option maxRecDepth 20000 in
theorem oX9_lids : zOk mX9_lids 0 := ⟨zT_of 1235 rfl rfl, iniX9, by decide +kernel, by decide +kernel, by decide +kernel⟩
set_option maxRecDepth 20000 in
theorem kX9_lids : zVirt mX9_lids := ⟨zT_of 1234 rfl rfl, zT_of 59 rfl rfl⟩
abbrev mX9_findFirst : ZM := (yX9_findFirst, cX9_findFirst, 9, some (.int))
set_option maxRecDepth 20000 in
theorem oX9_findFirst : zOk mX9_findFirst 2 := ⟨zT_of 1239 rfl rfl, iniX9, by decide +kernel, by decide +kernel, by decide +kernel⟩
set_option maxRecDepth 20000 in
theorem kX9_findFirst : zVirt mX9_findFirst := ⟨zT_of 1238 rfl rfl, zT_of 60 rfl rfl⟩
abbrev mX9_mostOf : ZM := (yX9_mostOf, cX9_mostOf, 8, some (.int))
set_option maxRecDepth 20000 in
theorem oX9_mostOf : zOk mX9_mostOf 2 := ⟨zT_of 1243 rfl rfl, iniX9, by decide +kernel, by decide +kernel, by decide +kernel⟩
set_option maxRecDepth 20000 in
theorem kX9_mostOf : zVirt mX9_mostOf := ⟨zT_of 1242 rfl rfl, zT_of 61 rfl rfl⟩
abbrev mX9_lacking : ZM := (yX9_lacking, cX9_lacking, 6, some (.int))
set_option maxRecDepth 20000 in
theorem oX9_lacking : zOk mX9_lacking 0 := ⟨zT_of 1247 rfl rfl, iniX9, by decide +kernel, by decide +kernel, by decide +kernel⟩
set_option maxRecDepth 20000 in
theorem kX9_lacking : zVirt mX9_lacking := ⟨zT_of 1245 rfl rfl, zT_of 1246 rfl rfl⟩
abbrev mX9_manyOf : ZM := (yX9_manyOf, cX9_manyOf, 3, some (.int))
set_option maxRecDepth 20000 in
theorem oX9_manyOf : zOk mX9_manyOf 1 := ⟨zT_of 1250 rfl rfl, iniX9, by decide +kernel, by decide +kernel, by decide +kernel⟩
set_option maxRecDepth 20000 in
theorem kX9_manyOf : zStat mX9_manyOf := zT_of 1249 rfl rfl
abbrev mX9_soup : ZM := (yX9_soup, cX9_soup, 6, some (.int))
set_option maxRecDepth 20000 in
theorem oX9_soup : zOk mX9_soup 2 := ⟨zT_of 1254 rfl rfl, iniX9, by decide +kernel, by decide +kernel, by decide +kernel⟩
set_option maxRecDepth 20000 in
theorem kX9_soup : zVirt mX9_soup := ⟨zT_of 1252 rfl rfl, zT_of 1253 rfl rfl⟩
abbrev mX9_sumOf : ZM := (yX9_sumOf, cX9_sumOf, 5, some (.int))
set_option maxRecDepth 20000 in
theorem oX9_sumOf : zOk mX9_sumOf 2 := ⟨zT_of 1258 rfl rfl, iniX9, by decide +kernel, by decide +kernel, by decide +kernel⟩
set_option maxRecDepth 20000 in
theorem kX9_sumOf : zVirt mX9_sumOf := ⟨zT_of 1257 rfl rfl, zT_of 62 rfl rfl⟩
abbrev mX9_isCovered : ZM := (yX9_isCovered, cX9_isCovered, 3, some (.boolean))
set_option maxRecDepth 20000 in
theorem oX9_isCovered : zOk mX9_isCovered 2 := ⟨zT_of 1262 rfl rfl, iniX9, by decide +kernel, by decide +kernel, by decide +kernel⟩
set_option maxRecDepth 20000 in
theorem kX9_isCovered : zVirt mX9_isCovered := ⟨zT_of 1261 rfl rfl, zT_of 63 rfl rfl⟩
abbrev mX9_much : ZM := (yX9_much, cX9_much, 1, some (.int))
set_option maxRecDepth 20000 in
theorem oX9_much : zOk mX9_much 0 := ⟨zT_of 1266 rfl rfl, iniX9, by decide +kernel, by decide +kernel, by decide +kernel⟩
set_option maxRecDepth 20000 in
theorem kX9_much : zVirt mX9_much := ⟨zT_of 1264 rfl rfl, zT_of 1265 rfl rfl⟩
abbrev mX9_muchBy : ZM := (yX9_muchBy, cX9_muchBy, 5, some (.int))
set_option maxRecDepth 20000 in
theorem oX9_muchBy : zOk mX9_muchBy 1 := ⟨zT_of 1270 rfl rfl, iniX9, by decide +kernel, by decide +kernel, by decide +kernel⟩
set_option maxRecDepth 20000 in
theorem kX9_muchBy : zVirt mX9_muchBy := ⟨zT_of 1269 rfl rfl, zT_of 64 rfl rfl⟩
abbrev mX9_worth : ZM := (yX9_worth, cX9_worth, 2, some (.int))
set_option maxRecDepth 20000 in
theorem oX9_worth : zOk mX9_worth 1 := ⟨zT_of 1274 rfl rfl, iniX9, by decide +kernel, by decide +kernel, by decide +kernel⟩
set_option maxRecDepth 20000 in
theorem kX9_worth : zVirt mX9_worth := ⟨zT_of 1272 rfl rfl, zT_of 1273 rfl rfl⟩
abbrev mX9_spare : ZM := (yX9_spare, cX9_spare, 4, some (.int))
set_option maxRecDepth 20000 in
theorem oX9_spare : zOk mX9_spare 0 := ⟨zT_of 1278 rfl rfl, iniX9, by decide +kernel, by decide +kernel, by decide +kernel⟩
set_option maxRecDepth 20000 in
theorem kX9_spare : zVirt mX9_spare := ⟨zT_of 1276 rfl rfl, zT_of 1277 rfl rfl⟩
abbrev mX9_piles : ZM := (yX9_piles, cX9_piles, 5, some (.int))
set_option maxRecDepth 20000 in
theorem oX9_piles : zOk mX9_piles 1 := ⟨zT_of 1282 rfl rfl, iniX9, by decide +kernel, by decide +kernel, by decide +kernel⟩
set_option maxRecDepth 20000 in
theorem kX9_piles : zVirt mX9_piles := ⟨zT_of 1280 rfl rfl, zT_of 1281 rfl rfl⟩
abbrev mX9_shelf : ZM := (yX9_shelf, cX9_shelf, 9, some (.int))
set_option maxRecDepth 20000 in
theorem oX9_shelf : zOk mX9_shelf 1 := ⟨zT_of 1286 rfl rfl, iniX9, by decide +kernel, by decide +kernel, by decide +kernel⟩
set_option maxRecDepth 20000 in
theorem kX9_shelf : zVirt mX9_shelf := ⟨zT_of 1284 rfl rfl, zT_of 1285 rfl rfl⟩
abbrev mX9_buy : ZM := (yX9_buy, cX9_buy, 5, some (.int))
set_option maxRecDepth 20000 in
theorem oX9_buy : zOk mX9_buy 1 := ⟨zT_of 1290 rfl rfl, iniX9, by decide +kernel, by decide +kernel, by decide +kernel⟩
set_option maxRecDepth 20000 in
theorem kX9_buy : zVirt mX9_buy := ⟨zT_of 1288 rfl rfl, zT_of 1289 rfl rfl⟩
abbrev mX9_manyIn : ZM := (yX9_manyIn, cX9_manyIn, 1, some (.int))
set_option maxRecDepth 20000 in
theorem oX9_manyIn : zOk mX9_manyIn 1 := ⟨zT_of 1293 rfl rfl, iniX9, by decide +kernel, by decide +kernel, by decide +kernel⟩
set_option maxRecDepth 20000 in
theorem kX9_manyIn : zStat mX9_manyIn := zT_of 1292 rfl rfl
abbrev mX9_priceOf : ZM := (yX9_priceOf, cX9_priceOf, 5, some (.int))
set_option maxRecDepth 20000 in
theorem oX9_priceOf : zOk mX9_priceOf 1 := ⟨zT_of 1297 rfl rfl, iniX9, by decide +kernel, by decide +kernel, by decide +kernel⟩
set_option maxRecDepth 20000 in
theorem kX9_priceOf : zVirt mX9_priceOf := ⟨zT_of 1296 rfl rfl, zT_of 65 rfl rfl⟩
abbrev mX9_isEnough : ZM := (yX9_isEnough, cX9_isEnough, 5, some (.boolean))
set_option maxRecDepth 20000 in
theorem oX9_isEnough : zOk mX9_isEnough 1 := ⟨zT_of 1302 rfl rfl, iniX9, by decide +kernel, by decide +kernel, by decide +kernel⟩
set_option maxRecDepth 20000 in
theorem kX9_isEnough : zVirt mX9_isEnough := ⟨zT_of 1301 rfl rfl, zT_of 66 rfl rfl⟩
abbrev mX9_buyOne : ZM := (yX9_buyOne, cX9_buyOne, 5, none)
set_option maxRecDepth 20000 in
theorem oX9_buyOne : zOk mX9_buyOne 1 := ⟨zT_of 1306 rfl rfl, iniX9, by decide +kernel, by decide +kernel, by decide +kernel⟩
set_option maxRecDepth 20000 in
theorem kX9_buyOne : zVirt mX9_buyOne := ⟨zT_of 1305 rfl rfl, zT_of 67 rfl rfl⟩
abbrev mX9_tries : ZM := (yX9_tries, cX9_tries, 9, some (.int))
set_option maxRecDepth 20000 in
theorem oX9_tries : zOk mX9_tries 1 := ⟨zT_of 1310 rfl rfl, iniX9, by decide +kernel, by decide +kernel, by decide +kernel⟩
set_option maxRecDepth 20000 in
theorem kX9_tries : zVirt mX9_tries := ⟨zT_of 1308 rfl rfl, zT_of 1309 rfl rfl⟩
abbrev mX9_firstOrder : ZM := (yX9_firstOrder, cX9_firstOrder, 3, none)
set_option maxRecDepth 20000 in
theorem oX9_firstOrder : zOk mX9_firstOrder 1 := ⟨zT_of 1314 rfl rfl, iniX9, by decide +kernel, by decide +kernel, by decide +kernel⟩
set_option maxRecDepth 20000 in
theorem kX9_firstOrder : zVirt mX9_firstOrder := ⟨zT_of 1313 rfl rfl, zT_of 68 rfl rfl⟩
abbrev mX9_meanBy : ZM := (yX9_meanBy, cX9_meanBy, 9, some (.long))
set_option maxRecDepth 20000 in
theorem oX9_meanBy : zOk mX9_meanBy 1 := ⟨zT_of 1319 rfl rfl, iniX9, by decide +kernel, by decide +kernel, by decide +kernel⟩
set_option maxRecDepth 20000 in
theorem kX9_meanBy : zVirt mX9_meanBy := ⟨zT_of 1318 rfl rfl, zT_of 69 rfl rfl⟩
abbrev mX9_nextOrder : ZM := (yX9_nextOrder, cX9_nextOrder, 7, some (.boolean))
set_option maxRecDepth 20000 in
theorem oX9_nextOrder : zOk mX9_nextOrder 1 := ⟨zT_of 1324 rfl rfl, iniX9, by decide +kernel, by decide +kernel, by decide +kernel⟩
set_option maxRecDepth 20000 in
theorem kX9_nextOrder : zVirt mX9_nextOrder := ⟨zT_of 1323 rfl rfl, zT_of 70 rfl rfl⟩
abbrev mX9_fraction : ZM := (yX9_fraction, cX9_fraction, 11, none)
set_option maxRecDepth 20000 in
theorem oX9_fraction : zOk mX9_fraction 2 := ⟨zT_of 1328 rfl rfl, iniX9, by decide +kernel, by decide +kernel, by decide +kernel⟩
set_option maxRecDepth 20000 in
theorem kX9_fraction : zVirt mX9_fraction := ⟨zT_of 1327 rfl rfl, zT_of 71 rfl rfl⟩
abbrev mX9_nuts : ZM := (yX9_nuts, cX9_nuts, 12, some (.int))
set_option maxRecDepth 20000 in
theorem oX9_nuts : zOk mX9_nuts 2 := ⟨zT_of 1332 rfl rfl, iniX9, by decide +kernel, by decide +kernel, by decide +kernel⟩
set_option maxRecDepth 20000 in
theorem kX9_nuts : zVirt mX9_nuts := ⟨zT_of 1330 rfl rfl, zT_of 1331 rfl rfl⟩
abbrev mX9_lend : ZM := (yX9_lend, cX9_lend, 5, some (.int))
set_option maxRecDepth 20000 in
theorem oX9_lend : zOk mX9_lend 3 := ⟨zT_of 1336 rfl rfl, iniX9, by decide +kernel, by decide +kernel, by decide +kernel⟩
set_option maxRecDepth 20000 in
theorem kX9_lend : zVirt mX9_lend := ⟨zT_of 1334 rfl rfl, zT_of 1335 rfl rfl⟩
abbrev mX9_has : ZM := (yX9_has, cX9_has, 2, some (.int))
set_option maxRecDepth 20000 in
theorem oX9_has : zOk mX9_has 1 := ⟨zT_of 1340 rfl rfl, iniX9, by decide +kernel, by decide +kernel, by decide +kernel⟩
set_option maxRecDepth 20000 in
theorem kX9_has : zVirt mX9_has := ⟨zT_of 1338 rfl rfl, zT_of 1339 rfl rfl⟩
abbrev mX9_whoHas : ZM := (yX9_whoHas, cX9_whoHas, 6, some (.int))
set_option maxRecDepth 20000 in
theorem oX9_whoHas : zOk mX9_whoHas 2 := ⟨zT_of 1344 rfl rfl, iniX9, by decide +kernel, by decide +kernel, by decide +kernel⟩
set_option maxRecDepth 20000 in
theorem kX9_whoHas : zVirt mX9_whoHas := ⟨zT_of 1343 rfl rfl, zT_of 72 rfl rfl⟩
abbrev mX9_wrong : ZM := (yX9_wrong, cX9_wrong, 2, some (.int))
set_option maxRecDepth 20000 in
theorem oX9_wrong : zOk mX9_wrong 0 := ⟨zT_of 1348 rfl rfl, iniX9, by decide +kernel, by decide +kernel, by decide +kernel⟩
set_option maxRecDepth 20000 in
theorem kX9_wrong : zVirt mX9_wrong := ⟨zT_of 1346 rfl rfl, zT_of 1347 rfl rfl⟩
abbrev mX9_hint : ZM := (yX9_hint, cX9_hint, 5, some (.int))
set_option maxRecDepth 20000 in
theorem oX9_hint : zOk mX9_hint 3 := ⟨zT_of 1352 rfl rfl, iniX9, by decide +kernel, by decide +kernel, by decide +kernel⟩
set_option maxRecDepth 20000 in
theorem kX9_hint : zVirt mX9_hint := ⟨zT_of 1350 rfl rfl, zT_of 1351 rfl rfl⟩
abbrev mX9_forget : ZM := (yX9_forget, cX9_forget, 4, some (.int))
set_option maxRecDepth 20000 in
theorem oX9_forget : zOk mX9_forget 1 := ⟨zT_of 1356 rfl rfl, iniX9, by decide +kernel, by decide +kernel, by decide +kernel⟩
set_option maxRecDepth 20000 in
theorem kX9_forget : zVirt mX9_forget := ⟨zT_of 1354 rfl rfl, zT_of 1355 rfl rfl⟩
abbrev mX9_labels : ZM := (yX9_labels, cX9_labels, 10, some (.int))
set_option maxRecDepth 20000 in
theorem oX9_labels : zOk mX9_labels 2 := ⟨zT_of 1360 rfl rfl, iniX9, by decide +kernel, by decide +kernel, by decide +kernel⟩
set_option maxRecDepth 20000 in
theorem kX9_labels : zVirt mX9_labels := ⟨zT_of 1358 rfl rfl, zT_of 1359 rfl rfl⟩
abbrev mX9_findWays : ZM := (yX9_findWays, cX9_findWays, 5, some (.int))
set_option maxRecDepth 20000 in
theorem oX9_findWays : zOk mX9_findWays 0 := ⟨zT_of 1364 rfl rfl, iniX9, by decide +kernel, by decide +kernel, by decide +kernel⟩
set_option maxRecDepth 20000 in
theorem kX9_findWays : zVirt mX9_findWays := ⟨zT_of 1363 rfl rfl, zT_of 73 rfl rfl⟩
abbrev mX9_isSo : ZM := (yX9_isSo, cX9_isSo, 6, some (.boolean))
set_option maxRecDepth 20000 in
theorem oX9_isSo : zOk mX9_isSo 0 := ⟨zT_of 1368 rfl rfl, iniX9, by decide +kernel, by decide +kernel, by decide +kernel⟩
set_option maxRecDepth 20000 in
theorem kX9_isSo : zVirt mX9_isSo := ⟨zT_of 1367 rfl rfl, zT_of 74 rfl rfl⟩
abbrev mX9_evening : ZM := (yX9_evening, cX9_evening, 11, some (.int))
set_option maxRecDepth 20000 in
theorem oX9_evening : zOk mX9_evening 2 := ⟨zT_of 1372 rfl rfl, iniX9, by decide +kernel, by decide +kernel, by decide +kernel⟩
set_option maxRecDepth 20000 in
theorem kX9_evening : zVirt mX9_evening := ⟨zT_of 1370 rfl rfl, zT_of 1371 rfl rfl⟩
abbrev mX9_part : ZM := (yX9_part, cX9_part, 2, some (.long))
set_option maxRecDepth 20000 in
theorem oX9_part : zOk mX9_part 1 := ⟨zT_of 1381 rfl rfl, iniX9, by decide +kernel, by decide +kernel, by decide +kernel⟩
set_option maxRecDepth 20000 in
theorem kX9_part : zVirt mX9_part := ⟨zT_of 1379 rfl rfl, zT_of 1380 rfl rfl⟩
abbrev mX9_image : ZM := (yX9_image, cX9_image, 2, some (.int))
set_option maxRecDepth 20000 in
theorem oX9_image : zOk mX9_image 1 := ⟨zT_of 1385 rfl rfl, iniX9, by decide +kernel, by decide +kernel, by decide +kernel⟩
set_option maxRecDepth 20000 in
theorem kX9_image : zVirt mX9_image := ⟨zT_of 1383 rfl rfl, zT_of 1384 rfl rfl⟩
abbrev mX9_from : ZM := (yX9_from, cX9_from, 2, some (.int))
set_option maxRecDepth 20000 in
theorem oX9_from : zOk mX9_from 1 := ⟨zT_of 1389 rfl rfl, iniX9, by decide +kernel, by decide +kernel, by decide +kernel⟩
set_option maxRecDepth 20000 in
theorem kX9_from : zVirt mX9_from := ⟨zT_of 1387 rfl rfl, zT_of 1388 rfl rfl⟩
abbrev mX9_status : ZM := (yX9_status, cX9_status, 2, some (.int))
set_option maxRecDepth 20000 in
theorem oX9_status : zOk mX9_status 1 := ⟨zT_of 1393 rfl rfl, iniX9, by decide +kernel, by decide +kernel, by decide +kernel⟩
set_option maxRecDepth 20000 in
theorem kX9_status : zVirt mX9_status := ⟨zT_of 1391 rfl rfl, zT_of 1392 rfl rfl⟩
abbrev mX9_count : ZM := (yX9_count, cX9_count, 2, some (.int))
set_option maxRecDepth 20000 in
theorem oX9_count : zOk mX9_count 1 := ⟨zT_of 1397 rfl rfl, iniX9, by decide +kernel, by decide +kernel, by decide +kernel⟩
set_option maxRecDepth 20000 in
theorem kX9_count : zVirt mX9_count := ⟨zT_of 1395 rfl rfl, zT_of 1396 rfl rfl⟩
abbrev mX9_counted : ZM := (yX9_counted, cX9_counted, 4, some (.int))
set_option maxRecDepth 20000 in
theorem oX9_counted : zOk mX9_counted 1 := ⟨zT_of 1401 rfl rfl, iniX9, by decide +kernel, by decide +kernel, by decide +kernel⟩
set_option maxRecDepth 20000 in
theorem kX9_counted : zVirt mX9_counted := ⟨zT_of 1400 rfl rfl, zT_of 75 rfl rfl⟩
abbrev mX9_digest : ZM := (yX9_digest, cX9_digest, 4, some (.long))
set_option maxRecDepth 20000 in
theorem oX9_digest : zOk mX9_digest 0 := ⟨zT_of 1405 rfl rfl, iniX9, by decide +kernel, by decide +kernel, by decide +kernel⟩
set_option maxRecDepth 20000 in
theorem kX9_digest : zVirt mX9_digest := ⟨zT_of 1403 rfl rfl, zT_of 1404 rfl rfl⟩
abbrev mX9_digested : ZM := (yX9_digested, cX9_digested, 8, some (.long))
set_option maxRecDepth 20000 in
theorem oX9_digested : zOk mX9_digested 3 := ⟨zT_of 1411 rfl rfl, iniX9, by decide +kernel, by decide +kernel, by decide +kernel⟩
set_option maxRecDepth 20000 in
theorem kX9_digested : zVirt mX9_digested := ⟨zT_of 1410 rfl rfl, zT_of 76 rfl rfl⟩
set_option maxRecDepth 20000 in
theorem nL_7 : zNew RL 7 8 14 [.null, .null, .null, .null, .null, .null, .null, .null, .null, .null, .int 0, .int 0, .int 0, .int 0] := ⟨RX8, TX8, tyX8, rfl, uX8, tyX8_ok, zT_of 96 rfl rfl, zT_of 97 rfl rfl, zT_of 78 rfl rfl, by decide +kernel, fun _ => rfl⟩
set_option maxRecDepth 20000 in
theorem lL_9 : zLk RL 9 yX8_init := Or.inl (zT_of 98 rfl rfl)
set_option maxRecDepth 20000 in
theorem lX8_3 : Cond.methodLink RX8 3 Lib.objectInit ∈ zT := zT_of 101 rfl rfl
set_option maxRecDepth 20000 in
theorem nX8_9 : zNew RX8 9 1 6 [.null, .null, .null, .null, .null, .null] := ⟨RX1, TX1, tyX1, rfl, uX1, tyX1_ok, zT_of 104 rfl rfl, zT_of 105 rfl rfl, zT_of 79 rfl rfl, by decide +kernel, fun _ => rfl⟩
set_option maxRecDepth 20000 in
theorem lX8_11 : zLk RX8 11 yX1_init := Or.inr ⟨"LidForEach", zTN_of 106 rfl rfl⟩
set_option maxRecDepth 20000 in
theorem lX1_3 : Cond.methodLink RX1 3 Lib.objectInit ∈ zT := zT_of 109 rfl rfl
set_option maxRecDepth 20000 in
theorem nX1_9 : zNew RX1 9 6 4 [.int 0, .int 0, .null, .int 0] := ⟨RX6, TX6, tyX6, rfl, uX6, tyX6_ok, zT_of 110 rfl rfl, zT_of 111 rfl rfl, zT_of 80 rfl rfl, by decide +kernel, fun _ => rfl⟩
set_option maxRecDepth 20000 in
theorem lX1_11 : zLk RX1 11 yX6_init := Or.inl (zT_of 112 rfl rfl)
set_option maxRecDepth 20000 in
theorem lX6_3 : Cond.methodLink RX6 3 Lib.objectInit ∈ zT := zT_of 115 rfl rfl
set_option maxRecDepth 20000 in
theorem lX6_9 : Cond.methodLink RX6 9 Lib.Math.max.name ∈ zT := zT_of 116 rfl rfl
set_option maxRecDepth 20000 in
theorem fX6_15 : zF RX6 15 6 0 := ⟨RX6, TX6, 4, rfl, by decide, uX6, Or.inl (zT_of 119 rfl rfl)⟩
set_option maxRecDepth 20000 in
theorem pX6_15 : zP RX6 15 6 0 .int true := ⟨RX6, TX6, 4, tyX6, rfl, by decide, uX6, zT_of 119 rfl rfl, tyX6_ok, nmX6, by decide +kernel, rfl, rfl⟩
set_option maxRecDepth 20000 in
theorem fX6_21 : zF RX6 21 6 1 := ⟨RX6, TX6, 4, rfl, by decide, uX6, Or.inl (zT_of 120 rfl rfl)⟩
set_option maxRecDepth 20000 in
theorem pX6_21 : zP RX6 21 6 1 .int true := ⟨RX6, TX6, 4, tyX6, rfl, by decide, uX6, zT_of 120 rfl rfl, tyX6_ok, nmX6, by decide +kernel, rfl, rfl⟩
set_option maxRecDepth 20000 in
theorem fX6_24 : zF RX6 24 6 2 := ⟨RX6, TX6, 4, rfl, by decide, uX6, Or.inl (zT_of 121 rfl rfl)⟩
set_option maxRecDepth 20000 in
theorem pX6_24 : zP RX6 24 6 2 (.array .int) true := ⟨RX6, TX6, 4, tyX6, rfl, by decide, uX6, zT_of 121 rfl rfl, tyX6_ok, nmX6, by decide +kernel, rfl, rfl⟩
set_option maxRecDepth 20000 in
theorem fX6_28 : zF RX6 28 6 3 := ⟨RX6, TX6, 4, rfl, by decide, uX6, Or.inl (zT_of 122 rfl rfl)⟩
set_option maxRecDepth 20000 in
theorem pX6_28 : zP RX6 28 6 3 .int false := ⟨RX6, TX6, 4, tyX6, rfl, by decide, uX6, zT_of 122 rfl rfl, tyX6_ok, nmX6, by decide +kernel, rfl, rfl⟩
set_option maxRecDepth 20000 in
theorem w_arr_int : Cond.arrayClass .int ∈ zT := zT_of 132 rfl rfl
set_option maxRecDepth 20000 in
theorem fX1_14 : zF RX1 14 1 0 := ⟨RX1, TX1, 6, rfl, by decide, uX1, Or.inl (zT_of 133 rfl rfl)⟩
set_option maxRecDepth 20000 in
theorem pX1_14 : zP RX1 14 1 0 (.object "LidForEach$Table") true := ⟨RX1, TX1, 6, tyX1, rfl, by decide, uX1, zT_of 133 rfl rfl, tyX1_ok, nmX1, by decide +kernel, rfl, rfl⟩
set_option maxRecDepth 20000 in
theorem fX2_33 : zF RX2 33 1 0 := ⟨RX1, TX1, 6, rfl, by decide, uX1, Or.inr ⟨"LidForEach", zTN_of 134 rfl rfl⟩⟩
set_option maxRecDepth 20000 in
theorem fX0_19 : zF RX0 19 1 0 := ⟨RX1, TX1, 6, rfl, by decide, uX1, Or.inr ⟨"LidForEach", zTN_of 135 rfl rfl⟩⟩
set_option maxRecDepth 20000 in
theorem fX8_89 : zF RX8 89 1 0 := ⟨RX1, TX1, 6, rfl, by decide, uX1, Or.inr ⟨"LidForEach", zTN_of 136 rfl rfl⟩⟩
set_option maxRecDepth 20000 in
theorem fX1_20 : zF RX1 20 1 1 := ⟨RX1, TX1, 6, rfl, by decide, uX1, Or.inl (zT_of 137 rfl rfl)⟩
set_option maxRecDepth 20000 in
theorem pX1_20 : zP RX1 20 1 1 (.object "LidForEach$Table") true := ⟨RX1, TX1, 6, tyX1, rfl, by decide, uX1, zT_of 137 rfl rfl, tyX1_ok, nmX1, by decide +kernel, rfl, rfl⟩
set_option maxRecDepth 20000 in
theorem fX8_178 : zF RX8 178 1 1 := ⟨RX1, TX1, 6, rfl, by decide, uX1, Or.inr ⟨"LidForEach", zTN_of 138 rfl rfl⟩⟩
set_option maxRecDepth 20000 in
theorem fX1_23 : zF RX1 23 1 2 := ⟨RX1, TX1, 6, rfl, by decide, uX1, Or.inl (zT_of 139 rfl rfl)⟩
set_option maxRecDepth 20000 in
theorem pX1_23 : zP RX1 23 1 2 (.object "LidForEach$Table") true := ⟨RX1, TX1, 6, tyX1, rfl, by decide, uX1, zT_of 139 rfl rfl, tyX1_ok, nmX1, by decide +kernel, rfl, rfl⟩
set_option maxRecDepth 20000 in
theorem fX8_209 : zF RX8 209 1 2 := ⟨RX1, TX1, 6, rfl, by decide, uX1, Or.inr ⟨"LidForEach", zTN_of 140 rfl rfl⟩⟩
set_option maxRecDepth 20000 in
theorem fX1_26 : zF RX1 26 1 3 := ⟨RX1, TX1, 6, rfl, by decide, uX1, Or.inl (zT_of 141 rfl rfl)⟩
set_option maxRecDepth 20000 in
theorem pX1_26 : zP RX1 26 1 3 (.object "LidForEach$Table") true := ⟨RX1, TX1, 6, tyX1, rfl, by decide, uX1, zT_of 141 rfl rfl, tyX1_ok, nmX1, by decide +kernel, rfl, rfl⟩
set_option maxRecDepth 20000 in
theorem fX8_234 : zF RX8 234 1 3 := ⟨RX1, TX1, 6, rfl, by decide, uX1, Or.inr ⟨"LidForEach", zTN_of 142 rfl rfl⟩⟩
set_option maxRecDepth 20000 in
theorem fX1_29 : zF RX1 29 1 4 := ⟨RX1, TX1, 6, rfl, by decide, uX1, Or.inl (zT_of 143 rfl rfl)⟩
set_option maxRecDepth 20000 in
theorem pX1_29 : zP RX1 29 1 4 (.object "LidForEach$Table") true := ⟨RX1, TX1, 6, tyX1, rfl, by decide, uX1, zT_of 143 rfl rfl, tyX1_ok, nmX1, by decide +kernel, rfl, rfl⟩
set_option maxRecDepth 20000 in
theorem fX2_57 : zF RX2 57 1 4 := ⟨RX1, TX1, 6, rfl, by decide, uX1, Or.inr ⟨"LidForEach", zTN_of 144 rfl rfl⟩⟩
set_option maxRecDepth 20000 in
theorem fX8_247 : zF RX8 247 1 4 := ⟨RX1, TX1, 6, rfl, by decide, uX1, Or.inr ⟨"LidForEach", zTN_of 145 rfl rfl⟩⟩
set_option maxRecDepth 20000 in
theorem fX1_32 : zF RX1 32 1 5 := ⟨RX1, TX1, 6, rfl, by decide, uX1, Or.inl (zT_of 146 rfl rfl)⟩
set_option maxRecDepth 20000 in
theorem pX1_32 : zP RX1 32 1 5 (.object "LidForEach$Table") true := ⟨RX1, TX1, 6, tyX1, rfl, by decide, uX1, zT_of 146 rfl rfl, tyX1_ok, nmX1, by decide +kernel, rfl, rfl⟩
set_option maxRecDepth 20000 in
theorem fX8_302 : zF RX8 302 1 5 := ⟨RX1, TX1, 6, rfl, by decide, uX1, Or.inr ⟨"LidForEach", zTN_of 147 rfl rfl⟩⟩
set_option maxRecDepth 20000 in
theorem nX8_25 : zNew RX8 25 7 8 [.null, .null, .int 0, .int 0, .int 0, .int 0, .int 0, .int 0] := ⟨RX7, TX7, tyX7, rfl, uX7, tyX7_ok, zT_of 161 rfl rfl, zT_of 162 rfl rfl, zT_of 82 rfl rfl, by decide +kernel, fun _ => rfl⟩
set_option maxRecDepth 20000 in
theorem lX8_27 : zLk RX8 27 yX7_init := Or.inr ⟨"LidForEach", zTN_of 163 rfl rfl⟩
set_option maxRecDepth 20000 in
theorem lX7_3 : Cond.methodLink RX7 3 Lib.objectInit ∈ zT := zT_of 166 rfl rfl
set_option maxRecDepth 20000 in
theorem fX7_9 : zF RX7 9 7 0 := ⟨RX7, TX7, 8, rfl, by decide, uX7, Or.inl (zT_of 167 rfl rfl)⟩
set_option maxRecDepth 20000 in
theorem pX7_9 : zP RX7 9 7 0 (.array .byte) true := ⟨RX7, TX7, 8, tyX7, rfl, by decide, uX7, zT_of 167 rfl rfl, tyX7_ok, nmX7, by decide +kernel, rfl, rfl⟩
set_option maxRecDepth 20000 in
theorem fX7_15 : zF RX7 15 7 1 := ⟨RX7, TX7, 8, rfl, by decide, uX7, Or.inl (zT_of 168 rfl rfl)⟩
set_option maxRecDepth 20000 in
theorem pX7_15 : zP RX7 15 7 1 (.array .int) true := ⟨RX7, TX7, 8, tyX7, rfl, by decide, uX7, zT_of 168 rfl rfl, tyX7_ok, nmX7, by decide +kernel, rfl, rfl⟩
set_option maxRecDepth 20000 in
theorem fX7_19 : zF RX7 19 7 2 := ⟨RX7, TX7, 8, rfl, by decide, uX7, Or.inl (zT_of 169 rfl rfl)⟩
set_option maxRecDepth 20000 in
theorem pX7_19 : zP RX7 19 7 2 .int false := ⟨RX7, TX7, 8, tyX7, rfl, by decide, uX7, zT_of 169 rfl rfl, tyX7_ok, nmX7, by decide +kernel, rfl, rfl⟩
set_option maxRecDepth 20000 in
theorem fX7_27 : zF RX7 27 7 3 := ⟨RX7, TX7, 8, rfl, by decide, uX7, Or.inl (zT_of 170 rfl rfl)⟩
set_option maxRecDepth 20000 in
theorem pX7_27 : zP RX7 27 7 3 .int false := ⟨RX7, TX7, 8, tyX7, rfl, by decide, uX7, zT_of 170 rfl rfl, tyX7_ok, nmX7, by decide +kernel, rfl, rfl⟩
set_option maxRecDepth 20000 in
theorem fX7_30 : zF RX7 30 7 4 := ⟨RX7, TX7, 8, rfl, by decide, uX7, Or.inl (zT_of 171 rfl rfl)⟩
set_option maxRecDepth 20000 in
theorem pX7_30 : zP RX7 30 7 4 .int false := ⟨RX7, TX7, 8, tyX7, rfl, by decide, uX7, zT_of 171 rfl rfl, tyX7_ok, nmX7, by decide +kernel, rfl, rfl⟩
set_option maxRecDepth 20000 in
theorem fX7_33 : zF RX7 33 7 5 := ⟨RX7, TX7, 8, rfl, by decide, uX7, Or.inl (zT_of 172 rfl rfl)⟩
set_option maxRecDepth 20000 in
theorem pX7_33 : zP RX7 33 7 5 .int false := ⟨RX7, TX7, 8, tyX7, rfl, by decide, uX7, zT_of 172 rfl rfl, tyX7_ok, nmX7, by decide +kernel, rfl, rfl⟩
set_option maxRecDepth 20000 in
theorem fX7_36 : zF RX7 36 7 6 := ⟨RX7, TX7, 8, rfl, by decide, uX7, Or.inl (zT_of 173 rfl rfl)⟩
set_option maxRecDepth 20000 in
theorem pX7_36 : zP RX7 36 7 6 .int false := ⟨RX7, TX7, 8, tyX7, rfl, by decide, uX7, zT_of 173 rfl rfl, tyX7_ok, nmX7, by decide +kernel, rfl, rfl⟩
set_option maxRecDepth 20000 in
theorem fX7_39 : zF RX7 39 7 7 := ⟨RX7, TX7, 8, rfl, by decide, uX7, Or.inl (zT_of 174 rfl rfl)⟩
set_option maxRecDepth 20000 in
theorem pX7_39 : zP RX7 39 7 7 .int false := ⟨RX7, TX7, 8, tyX7, rfl, by decide, uX7, zT_of 174 rfl rfl, tyX7_ok, nmX7, by decide +kernel, rfl, rfl⟩
set_option maxRecDepth 20000 in
theorem w_arr_byte : Cond.arrayClass .byte ∈ zT := zT_of 192 rfl rfl
set_option maxRecDepth 20000 in
theorem nX8_32 : zNew RX8 32 4 5 [.null, .null, .null, .int 0, .int 0] := ⟨RX4, TX4, tyX4, rfl, uX4, tyX4_ok, zT_of 193 rfl rfl, zT_of 194 rfl rfl, zT_of 83 rfl rfl, by decide +kernel, fun _ => rfl⟩
set_option maxRecDepth 20000 in
theorem lX8_34 : zLk RX8 34 yX4_init := Or.inr ⟨"LidForEach", zTN_of 195 rfl rfl⟩
set_option maxRecDepth 20000 in
theorem lX4_3 : Cond.methodLink RX4 3 Lib.objectInit ∈ zT := zT_of 198 rfl rfl
set_option maxRecDepth 20000 in
theorem fX4_9 : zF RX4 9 4 0 := ⟨RX4, TX4, 5, rfl, by decide, uX4, Or.inl (zT_of 199 rfl rfl)⟩
set_option maxRecDepth 20000 in
theorem pX4_9 : zP RX4 9 4 0 (.array .int) true := ⟨RX4, TX4, 5, tyX4, rfl, by decide, uX4, zT_of 199 rfl rfl, tyX4_ok, nmX4, by decide +kernel, rfl, rfl⟩
set_option maxRecDepth 20000 in
theorem fX4_15 : zF RX4 15 4 1 := ⟨RX4, TX4, 5, rfl, by decide, uX4, Or.inl (zT_of 200 rfl rfl)⟩
set_option maxRecDepth 20000 in
theorem pX4_15 : zP RX4 15 4 1 (.array .int) true := ⟨RX4, TX4, 5, tyX4, rfl, by decide, uX4, zT_of 200 rfl rfl, tyX4_ok, nmX4, by decide +kernel, rfl, rfl⟩
set_option maxRecDepth 20000 in
theorem fX4_18 : zF RX4 18 4 2 := ⟨RX4, TX4, 5, rfl, by decide, uX4, Or.inl (zT_of 201 rfl rfl)⟩
set_option maxRecDepth 20000 in
theorem pX4_18 : zP RX4 18 4 2 (.array .int) true := ⟨RX4, TX4, 5, tyX4, rfl, by decide, uX4, zT_of 201 rfl rfl, tyX4_ok, nmX4, by decide +kernel, rfl, rfl⟩
set_option maxRecDepth 20000 in
theorem fX4_21 : zF RX4 21 4 3 := ⟨RX4, TX4, 5, rfl, by decide, uX4, Or.inl (zT_of 202 rfl rfl)⟩
set_option maxRecDepth 20000 in
theorem pX4_21 : zP RX4 21 4 3 .int false := ⟨RX4, TX4, 5, tyX4, rfl, by decide, uX4, zT_of 202 rfl rfl, tyX4_ok, nmX4, by decide +kernel, rfl, rfl⟩
set_option maxRecDepth 20000 in
theorem fX4_34 : zF RX4 34 4 4 := ⟨RX4, TX4, 5, rfl, by decide, uX4, Or.inl (zT_of 203 rfl rfl)⟩
set_option maxRecDepth 20000 in
theorem pX4_34 : zP RX4 34 4 4 .int false := ⟨RX4, TX4, 5, tyX4, rfl, by decide, uX4, zT_of 203 rfl rfl, tyX4_ok, nmX4, by decide +kernel, rfl, rfl⟩
set_option maxRecDepth 20000 in
theorem nX8_39 : zNew RX8 39 0 3 [.null, .null, .int 0] := ⟨RX0, TX0, tyX0, rfl, uX0, tyX0_ok, zT_of 215 rfl rfl, zT_of 216 rfl rfl, zT_of 84 rfl rfl, by decide +kernel, fun _ => rfl⟩
set_option maxRecDepth 20000 in
theorem lX8_41 : zLk RX8 41 yX0_init := Or.inr ⟨"LidForEach", zTN_of 217 rfl rfl⟩
set_option maxRecDepth 20000 in
theorem lX0_3 : Cond.methodLink RX0 3 Lib.objectInit ∈ zT := zT_of 220 rfl rfl
set_option maxRecDepth 20000 in
theorem fX0_9 : zF RX0 9 0 0 := ⟨RX0, TX0, 3, rfl, by decide, uX0, Or.inl (zT_of 221 rfl rfl)⟩
set_option maxRecDepth 20000 in
theorem pX0_9 : zP RX0 9 0 0 (.array .int) true := ⟨RX0, TX0, 3, tyX0, rfl, by decide, uX0, zT_of 221 rfl rfl, tyX0_ok, nmX0, by decide +kernel, rfl, rfl⟩
set_option maxRecDepth 20000 in
theorem fX0_15 : zF RX0 15 0 1 := ⟨RX0, TX0, 3, rfl, by decide, uX0, Or.inl (zT_of 222 rfl rfl)⟩
set_option maxRecDepth 20000 in
theorem pX0_15 : zP RX0 15 0 1 (.array .boolean) true := ⟨RX0, TX0, 3, tyX0, rfl, by decide, uX0, zT_of 222 rfl rfl, tyX0_ok, nmX0, by decide +kernel, rfl, rfl⟩
set_option maxRecDepth 20000 in
theorem fX0_37 : zF RX0 37 0 2 := ⟨RX0, TX0, 3, rfl, by decide, uX0, Or.inl (zT_of 223 rfl rfl)⟩
set_option maxRecDepth 20000 in
theorem pX0_37 : zP RX0 37 0 2 .int false := ⟨RX0, TX0, 3, tyX0, rfl, by decide, uX0, zT_of 223 rfl rfl, tyX0_ok, nmX0, by decide +kernel, rfl, rfl⟩
set_option maxRecDepth 20000 in
theorem w_arr_boolean : Cond.arrayClass .boolean ∈ zT := zT_of 231 rfl rfl
set_option maxRecDepth 20000 in
theorem nX8_46 : zNew RX8 46 5 2 [.null, .int 0] := ⟨RX5, TX5, tyX5, rfl, uX5, tyX5_ok, zT_of 232 rfl rfl, zT_of 233 rfl rfl, zT_of 85 rfl rfl, by decide +kernel, fun _ => rfl⟩
set_option maxRecDepth 20000 in
theorem lX8_48 : zLk RX8 48 yX5_init := Or.inr ⟨"LidForEach", zTN_of 234 rfl rfl⟩
set_option maxRecDepth 20000 in
theorem lX5_3 : Cond.methodLink RX5 3 Lib.objectInit ∈ zT := zT_of 237 rfl rfl
set_option maxRecDepth 20000 in
theorem fX5_9 : zF RX5 9 5 0 := ⟨RX5, TX5, 2, rfl, by decide, uX5, Or.inl (zT_of 238 rfl rfl)⟩
set_option maxRecDepth 20000 in
theorem pX5_9 : zP RX5 9 5 0 (.array .int) true := ⟨RX5, TX5, 2, tyX5, rfl, by decide, uX5, zT_of 238 rfl rfl, tyX5_ok, nmX5, by decide +kernel, rfl, rfl⟩
set_option maxRecDepth 20000 in
theorem fX5_15 : zF RX5 15 5 1 := ⟨RX5, TX5, 2, rfl, by decide, uX5, Or.inl (zT_of 239 rfl rfl)⟩
set_option maxRecDepth 20000 in
theorem pX5_15 : zP RX5 15 5 1 .int false := ⟨RX5, TX5, 2, tyX5, rfl, by decide, uX5, zT_of 239 rfl rfl, tyX5_ok, nmX5, by decide +kernel, rfl, rfl⟩
set_option maxRecDepth 20000 in
theorem nX8_53 : zNew RX8 53 2 9 [.null, .null, .null, .null, .null, .null, .null, .int 0, .int 0] := ⟨RX2, TX2, tyX2, rfl, uX2, tyX2_ok, zT_of 245 rfl rfl, zT_of 246 rfl rfl, zT_of 86 rfl rfl, by decide +kernel, fun _ => rfl⟩
set_option maxRecDepth 20000 in
theorem lX8_55 : zLk RX8 55 yX2_init := Or.inr ⟨"LidForEach", zTN_of 247 rfl rfl⟩
set_option maxRecDepth 20000 in
theorem lX2_3 : Cond.methodLink RX2 3 Lib.objectInit ∈ zT := zT_of 250 rfl rfl
set_option maxRecDepth 20000 in
theorem fX2_9 : zF RX2 9 2 0 := ⟨RX2, TX2, 9, rfl, by decide, uX2, Or.inl (zT_of 251 rfl rfl)⟩
set_option maxRecDepth 20000 in
theorem pX2_9 : zP RX2 9 2 0 (.array .int) true := ⟨RX2, TX2, 9, tyX2, rfl, by decide, uX2, zT_of 251 rfl rfl, tyX2_ok, nmX2, by decide +kernel, rfl, rfl⟩
set_option maxRecDepth 20000 in
theorem fX2_15 : zF RX2 15 2 1 := ⟨RX2, TX2, 9, rfl, by decide, uX2, Or.inl (zT_of 252 rfl rfl)⟩
set_option maxRecDepth 20000 in
theorem pX2_15 : zP RX2 15 2 1 (.array .int) true := ⟨RX2, TX2, 9, tyX2, rfl, by decide, uX2, zT_of 252 rfl rfl, tyX2_ok, nmX2, by decide +kernel, rfl, rfl⟩
set_option maxRecDepth 20000 in
theorem fX2_18 : zF RX2 18 2 2 := ⟨RX2, TX2, 9, rfl, by decide, uX2, Or.inl (zT_of 253 rfl rfl)⟩
set_option maxRecDepth 20000 in
theorem pX2_18 : zP RX2 18 2 2 (.array .int) true := ⟨RX2, TX2, 9, tyX2, rfl, by decide, uX2, zT_of 253 rfl rfl, tyX2_ok, nmX2, by decide +kernel, rfl, rfl⟩
set_option maxRecDepth 20000 in
theorem fX2_21 : zF RX2 21 2 3 := ⟨RX2, TX2, 9, rfl, by decide, uX2, Or.inl (zT_of 254 rfl rfl)⟩
set_option maxRecDepth 20000 in
theorem pX2_21 : zP RX2 21 2 3 (.array .int) true := ⟨RX2, TX2, 9, tyX2, rfl, by decide, uX2, zT_of 254 rfl rfl, tyX2_ok, nmX2, by decide +kernel, rfl, rfl⟩
set_option maxRecDepth 20000 in
theorem fX2_24 : zF RX2 24 2 4 := ⟨RX2, TX2, 9, rfl, by decide, uX2, Or.inl (zT_of 255 rfl rfl)⟩
set_option maxRecDepth 20000 in
theorem pX2_24 : zP RX2 24 2 4 (.array .int) true := ⟨RX2, TX2, 9, tyX2, rfl, by decide, uX2, zT_of 255 rfl rfl, tyX2_ok, nmX2, by decide +kernel, rfl, rfl⟩
set_option maxRecDepth 20000 in
theorem fX2_27 : zF RX2 27 2 5 := ⟨RX2, TX2, 9, rfl, by decide, uX2, Or.inl (zT_of 256 rfl rfl)⟩
set_option maxRecDepth 20000 in
theorem pX2_27 : zP RX2 27 2 5 (.array .int) true := ⟨RX2, TX2, 9, tyX2, rfl, by decide, uX2, zT_of 256 rfl rfl, tyX2_ok, nmX2, by decide +kernel, rfl, rfl⟩
set_option maxRecDepth 20000 in
theorem fX2_30 : zF RX2 30 2 6 := ⟨RX2, TX2, 9, rfl, by decide, uX2, Or.inl (zT_of 257 rfl rfl)⟩
set_option maxRecDepth 20000 in
theorem pX2_30 : zP RX2 30 2 6 (.array .int) true := ⟨RX2, TX2, 9, tyX2, rfl, by decide, uX2, zT_of 257 rfl rfl, tyX2_ok, nmX2, by decide +kernel, rfl, rfl⟩
set_option maxRecDepth 20000 in
theorem fX2_51 : zF RX2 51 2 7 := ⟨RX2, TX2, 9, rfl, by decide, uX2, Or.inl (zT_of 258 rfl rfl)⟩
set_option maxRecDepth 20000 in
theorem pX2_51 : zP RX2 51 2 7 .int false := ⟨RX2, TX2, 9, tyX2, rfl, by decide, uX2, zT_of 258 rfl rfl, tyX2_ok, nmX2, by decide +kernel, rfl, rfl⟩
set_option maxRecDepth 20000 in
theorem fX2_74 : zF RX2 74 2 8 := ⟨RX2, TX2, 9, rfl, by decide, uX2, Or.inl (zT_of 259 rfl rfl)⟩
set_option maxRecDepth 20000 in
theorem pX2_74 : zP RX2 74 2 8 .int false := ⟨RX2, TX2, 9, tyX2, rfl, by decide, uX2, zT_of 259 rfl rfl, tyX2_ok, nmX2, by decide +kernel, rfl, rfl⟩
set_option maxRecDepth 20000 in
theorem nX8_60 : zNew RX8 60 3 2 [.long 0, .long 0] := ⟨RX3, TX3, tyX3, rfl, uX3, tyX3_ok, zT_of 279 rfl rfl, zT_of 280 rfl rfl, zT_of 87 rfl rfl, by decide +kernel, fun _ => rfl⟩
set_option maxRecDepth 20000 in
theorem lX8_62 : zLk RX8 62 yX3_init := Or.inr ⟨"LidForEach", zTN_of 281 rfl rfl⟩
set_option maxRecDepth 20000 in
theorem lX3_1 : Cond.methodLink RX3 1 Lib.objectInit ∈ zT := zT_of 284 rfl rfl
set_option maxRecDepth 20000 in
theorem fX3_17 : zF RX3 17 3 0 := ⟨RX3, TX3, 2, rfl, by decide, uX3, Or.inl (zT_of 285 rfl rfl)⟩
set_option maxRecDepth 20000 in
theorem pX3_17 : zP RX3 17 3 0 .long false := ⟨RX3, TX3, 2, tyX3, rfl, by decide, uX3, zT_of 285 rfl rfl, tyX3_ok, nmX3, by decide +kernel, rfl, rfl⟩
set_option maxRecDepth 20000 in
theorem fX8_264 : zF RX8 264 3 0 := ⟨RX3, TX3, 2, rfl, by decide, uX3, Or.inr ⟨"LidForEach", zTN_of 286 rfl rfl⟩⟩
set_option maxRecDepth 20000 in
theorem fX3_7 : zF RX3 7 3 1 := ⟨RX3, TX3, 2, rfl, by decide, uX3, Or.inl (zT_of 287 rfl rfl)⟩
set_option maxRecDepth 20000 in
theorem pX3_7 : zP RX3 7 3 1 .long false := ⟨RX3, TX3, 2, tyX3, rfl, by decide, uX3, zT_of 287 rfl rfl, tyX3_ok, nmX3, by decide +kernel, rfl, rfl⟩
set_option maxRecDepth 20000 in
theorem fX8_268 : zF RX8 268 3 1 := ⟨RX3, TX3, 2, rfl, by decide, uX3, Or.inr ⟨"LidForEach", zTN_of 288 rfl rfl⟩⟩
set_option maxRecDepth 20000 in
theorem fX8_12 : zF RX8 12 8 0 := ⟨RX8, TX8, 14, rfl, by decide, uX8, Or.inl (zT_of 294 rfl rfl)⟩
set_option maxRecDepth 20000 in
theorem pX8_12 : zP RX8 12 8 0 (.object "LidForEach$Cupboard") true := ⟨RX8, TX8, 14, tyX8, rfl, by decide, uX8, zT_of 294 rfl rfl, tyX8_ok, nmX8, by decide +kernel, rfl, rfl⟩
set_option maxRecDepth 20000 in
theorem fX8_16 : zF RX8 16 8 1 := ⟨RX8, TX8, 14, rfl, by decide, uX8, Or.inl (zT_of 295 rfl rfl)⟩
set_option maxRecDepth 20000 in
theorem pX8_16 : zP RX8 16 8 1 (.object "LidForEach$Cupboard") true := ⟨RX8, TX8, 14, tyX8, rfl, by decide, uX8, zT_of 295 rfl rfl, tyX8_ok, nmX8, by decide +kernel, rfl, rfl⟩
set_option maxRecDepth 20000 in
theorem fX8_19 : zF RX8 19 8 2 := ⟨RX8, TX8, 14, rfl, by decide, uX8, Or.inl (zT_of 296 rfl rfl)⟩
set_option maxRecDepth 20000 in
theorem pX8_19 : zP RX8 19 8 2 (.object "LidForEach$Cupboard") true := ⟨RX8, TX8, 14, tyX8, rfl, by decide, uX8, zT_of 296 rfl rfl, tyX8_ok, nmX8, by decide +kernel, rfl, rfl⟩
set_option maxRecDepth 20000 in
theorem fX8_22 : zF RX8 22 8 3 := ⟨RX8, TX8, 14, rfl, by decide, uX8, Or.inl (zT_of 297 rfl rfl)⟩
set_option maxRecDepth 20000 in
theorem pX8_22 : zP RX8 22 8 3 (.object "LidForEach$Cupboard") true := ⟨RX8, TX8, 14, tyX8, rfl, by decide, uX8, zT_of 297 rfl rfl, tyX8_ok, nmX8, by decide +kernel, rfl, rfl⟩
set_option maxRecDepth 20000 in
theorem fX8_28 : zF RX8 28 8 4 := ⟨RX8, TX8, 14, rfl, by decide, uX8, Or.inl (zT_of 298 rfl rfl)⟩
set_option maxRecDepth 20000 in
theorem pX8_28 : zP RX8 28 8 4 (.object "LidForEach$Text") true := ⟨RX8, TX8, 14, tyX8, rfl, by decide, uX8, zT_of 298 rfl rfl, tyX8_ok, nmX8, by decide +kernel, rfl, rfl⟩
set_option maxRecDepth 20000 in
theorem fX8_35 : zF RX8 35 8 5 := ⟨RX8, TX8, 14, rfl, by decide, uX8, Or.inl (zT_of 299 rfl rfl)⟩
set_option maxRecDepth 20000 in
theorem pX8_35 : zP RX8 35 8 5 (.object "LidForEach$Pairs") true := ⟨RX8, TX8, 14, tyX8, rfl, by decide, uX8, zT_of 299 rfl rfl, tyX8_ok, nmX8, by decide +kernel, rfl, rfl⟩
set_option maxRecDepth 20000 in
theorem fX8_42 : zF RX8 42 8 6 := ⟨RX8, TX8, 14, rfl, by decide, uX8, Or.inl (zT_of 300 rfl rfl)⟩
set_option maxRecDepth 20000 in
theorem pX8_42 : zP RX8 42 8 6 (.object "LidForEach$Crowds") true := ⟨RX8, TX8, 14, tyX8, rfl, by decide, uX8, zT_of 300 rfl rfl, tyX8_ok, nmX8, by decide +kernel, rfl, rfl⟩
set_option maxRecDepth 20000 in
theorem fX8_49 : zF RX8 49 8 7 := ⟨RX8, TX8, 14, rfl, by decide, uX8, Or.inl (zT_of 301 rfl rfl)⟩
set_option maxRecDepth 20000 in
theorem pX8_49 : zP RX8 49 8 7 (.object "LidForEach$Ranking") true := ⟨RX8, TX8, 14, tyX8, rfl, by decide, uX8, zT_of 301 rfl rfl, tyX8_ok, nmX8, by decide +kernel, rfl, rfl⟩
set_option maxRecDepth 20000 in
theorem fX8_56 : zF RX8 56 8 8 := ⟨RX8, TX8, 14, rfl, by decide, uX8, Or.inl (zT_of 302 rfl rfl)⟩
set_option maxRecDepth 20000 in
theorem pX8_56 : zP RX8 56 8 8 (.object "LidForEach$Foods") true := ⟨RX8, TX8, 14, tyX8, rfl, by decide, uX8, zT_of 302 rfl rfl, tyX8_ok, nmX8, by decide +kernel, rfl, rfl⟩
set_option maxRecDepth 20000 in
theorem fX8_63 : zF RX8 63 8 9 := ⟨RX8, TX8, 14, rfl, by decide, uX8, Or.inl (zT_of 303 rfl rfl)⟩
set_option maxRecDepth 20000 in
theorem pX8_63 : zP RX8 63 8 9 (.object "LidForEach$Fraction") true := ⟨RX8, TX8, 14, tyX8, rfl, by decide, uX8, zT_of 303 rfl rfl, tyX8_ok, nmX8, by decide +kernel, rfl, rfl⟩
set_option maxRecDepth 20000 in
theorem fX8_275 : zF RX8 275 8 10 := ⟨RX8, TX8, 14, rfl, by decide, uX8, Or.inl (zT_of 304 rfl rfl)⟩
set_option maxRecDepth 20000 in
theorem pX8_275 : zP RX8 275 8 10 .int false := ⟨RX8, TX8, 14, tyX8, rfl, by decide, uX8, zT_of 304 rfl rfl, tyX8_ok, nmX8, by decide +kernel, rfl, rfl⟩
set_option maxRecDepth 20000 in
theorem fX8_279 : zF RX8 279 8 11 := ⟨RX8, TX8, 14, rfl, by decide, uX8, Or.inl (zT_of 305 rfl rfl)⟩
set_option maxRecDepth 20000 in
theorem pX8_279 : zP RX8 279 8 11 .int false := ⟨RX8, TX8, 14, tyX8, rfl, by decide, uX8, zT_of 305 rfl rfl, tyX8_ok, nmX8, by decide +kernel, rfl, rfl⟩
set_option maxRecDepth 20000 in
theorem fX8_282 : zF RX8 282 8 12 := ⟨RX8, TX8, 14, rfl, by decide, uX8, Or.inl (zT_of 306 rfl rfl)⟩
set_option maxRecDepth 20000 in
theorem pX8_282 : zP RX8 282 8 12 .int false := ⟨RX8, TX8, 14, tyX8, rfl, by decide, uX8, zT_of 306 rfl rfl, tyX8_ok, nmX8, by decide +kernel, rfl, rfl⟩
set_option maxRecDepth 20000 in
theorem fX8_285 : zF RX8 285 8 13 := ⟨RX8, TX8, 14, rfl, by decide, uX8, Or.inl (zT_of 307 rfl rfl)⟩
set_option maxRecDepth 20000 in
theorem pX8_285 : zP RX8 285 8 13 .int false := ⟨RX8, TX8, 14, tyX8, rfl, by decide, uX8, zT_of 307 rfl rfl, tyX8_ok, nmX8, by decide +kernel, rfl, rfl⟩
set_option maxRecDepth 20000 in
theorem lL_13 : zLk RL 13 yX8_box := Or.inl (zT_of 337 rfl rfl)
set_option maxRecDepth 20000 in
theorem lX8_67 : zLk RX8 67 yX1_addBox := Or.inl (zT_of 341 rfl rfl)
set_option maxRecDepth 20000 in
theorem lX1_43 : zLk RX1 43 yX1_isFormAndSize := Or.inl (zT_of 345 rfl rfl)
set_option maxRecDepth 20000 in
theorem lX1_47 : zLk RX1 47 yX8_within := Or.inr ⟨"LidForEach", zTN_of 348 rfl rfl⟩
set_option maxRecDepth 20000 in
theorem lX1_51 : zLk RX1 51 yX6_add := Or.inl (zT_of 351 rfl rfl)
set_option maxRecDepth 20000 in
theorem lX6_35 : zLk RX6 35 yX6_change := Or.inl (zT_of 355 rfl rfl)
set_option maxRecDepth 20000 in
theorem lX6_31 : zLk RX6 31 yX6_isCell := Or.inl (zT_of 359 rfl rfl)
set_option maxRecDepth 20000 in
theorem lX1_55 : zLk RX1 55 yX6_change := Or.inl (zT_of 363 rfl rfl)
set_option maxRecDepth 20000 in
theorem lX1_35 : zLk RX1 35 yX6_drop := Or.inl (zT_of 364 rfl rfl)
set_option maxRecDepth 20000 in
theorem lX8_71 : zLk RX8 71 yX8_told := Or.inl (zT_of 368 rfl rfl)
set_option maxRecDepth 20000 in
theorem lL_18 : zLk RL 18 yX8_lid := Or.inl (zT_of 372 rfl rfl)
set_option maxRecDepth 20000 in
theorem lX8_75 : zLk RX8 75 yX1_addLid := Or.inl (zT_of 376 rfl rfl)
set_option maxRecDepth 20000 in
theorem lX1_59 : zLk RX1 59 yX1_isKind := Or.inl (zT_of 380 rfl rfl)
set_option maxRecDepth 20000 in
theorem lL_22 : zLk RL 22 yX8_put := Or.inl (zT_of 383 rfl rfl)
set_option maxRecDepth 20000 in
theorem lX8_78 : zLk RX8 78 yX1_putOn := Or.inl (zT_of 387 rfl rfl)
set_option maxRecDepth 20000 in
theorem lX1_63 : zLk RX1 63 yX6_contains := Or.inl (zT_of 391 rfl rfl)
set_option maxRecDepth 20000 in
theorem lX1_66 : zLk RX1 66 yX1_rowFits := Or.inl (zT_of 395 rfl rfl)
set_option maxRecDepth 20000 in
theorem lX1_74 : zLk RX1 74 yX6_at := Or.inl (zT_of 399 rfl rfl)
set_option maxRecDepth 20000 in
theorem lX1_70 : zLk RX1 70 yX1_boxUnder := Or.inl (zT_of 403 rfl rfl)
set_option maxRecDepth 20000 in
theorem lX1_81 : zLk RX1 81 yX6_size := Or.inl (zT_of 407 rfl rfl)
set_option maxRecDepth 20000 in
theorem lX1_78 : zLk RX1 78 yX1_remember := Or.inl (zT_of 411 rfl rfl)
set_option maxRecDepth 20000 in
theorem lX1_84 : zLk RX1 84 yX6_dropFirst := Or.inl (zT_of 415 rfl rfl)
set_option maxRecDepth 20000 in
theorem lX6_39 : Cond.methodLink RX6 39 arraycopyName ∈ zT := zT_of 419 rfl rfl
set_option maxRecDepth 20000 in
theorem w_native : Cond.native arraycopyName ∈ zT := zT_of 421 rfl rfl
set_option maxRecDepth 20000 in
theorem lL_27 : zLk RL 27 yX8_off := Or.inl (zT_of 422 rfl rfl)
set_option maxRecDepth 20000 in
theorem lX8_82 : zLk RX8 82 yX1_takeOff := Or.inl (zT_of 426 rfl rfl)
set_option maxRecDepth 20000 in
theorem lL_32 : zLk RL 32 yX8_undo := Or.inl (zT_of 430 rfl rfl)
set_option maxRecDepth 20000 in
theorem lX8_85 : zLk RX8 85 yX1_stepBack := Or.inl (zT_of 434 rfl rfl)
set_option maxRecDepth 20000 in
theorem lX1_87 : zLk RX1 87 yX6_dropLast := Or.inl (zT_of 438 rfl rfl)
set_option maxRecDepth 20000 in
theorem lL_37 : zLk RL 37 yX8_on := Or.inl (zT_of 442 rfl rfl)
set_option maxRecDepth 20000 in
theorem lX8_93 : zLk RX8 93 yX6_contains := Or.inl (zT_of 446 rfl rfl)
set_option maxRecDepth 20000 in
theorem lX8_99 : zLk RX8 99 yX6_at := Or.inl (zT_of 447 rfl rfl)
set_option maxRecDepth 20000 in
theorem lX8_102 : zLk RX8 102 yX8_badToldApart := Or.inl (zT_of 448 rfl rfl)
set_option maxRecDepth 20000 in
theorem lL_41 : zLk RL 41 yX8_grasp := Or.inl (zT_of 452 rfl rfl)
set_option maxRecDepth 20000 in
theorem lX8_105 : zLk RX8 105 yX1_changeGrasps := Or.inl (zT_of 456 rfl rfl)
set_option maxRecDepth 20000 in
theorem lL_45 : zLk RL 45 yX8_sort := Or.inl (zT_of 460 rfl rfl)
set_option maxRecDepth 20000 in
theorem lX8_108 : zLk RX8 108 yX1_addSort := Or.inl (zT_of 464 rfl rfl)
set_option maxRecDepth 20000 in
theorem lL_50 : zLk RL 50 yX8_eye := Or.inl (zT_of 468 rfl rfl)
set_option maxRecDepth 20000 in
theorem lX8_112 : zLk RX8 112 yX1_changeChance := Or.inl (zT_of 472 rfl rfl)
set_option maxRecDepth 20000 in
theorem lL_54 : zLk RL 54 yX8_type := Or.inl (zT_of 476 rfl rfl)
set_option maxRecDepth 20000 in
theorem lX8_115 : zLk RX8 115 yX7_append := Or.inl (zT_of 480 rfl rfl)
set_option maxRecDepth 20000 in
theorem lX7_23 : zLk RX7 23 yX8_within := Or.inr ⟨"LidForEach", zTN_of 484 rfl rfl⟩
set_option maxRecDepth 20000 in
theorem lL_58 : zLk RL 58 yX8_clear := Or.inl (zT_of 485 rfl rfl)
set_option maxRecDepth 20000 in
theorem lX8_118 : zLk RX8 118 yX7_drop := Or.inl (zT_of 489 rfl rfl)
set_option maxRecDepth 20000 in
theorem lL_62 : zLk RL 62 yX8_read := Or.inl (zT_of 493 rfl rfl)
set_option maxRecDepth 20000 in
theorem lX8_121 : zLk RX8 121 yX1_empty := Or.inl (zT_of 497 rfl rfl)
set_option maxRecDepth 20000 in
theorem lX8_124 : zLk RX8 124 yX7_rewind := Or.inl (zT_of 501 rfl rfl)
set_option maxRecDepth 20000 in
theorem lX8_127 : zLk RX8 127 yX7_advance := Or.inl (zT_of 505 rfl rfl)
set_option maxRecDepth 20000 in
theorem lX7_49 : zLk RX7 49 yX7_byteAt := Or.inl (zT_of 509 rfl rfl)
set_option maxRecDepth 20000 in
theorem lX7_52 : zLk RX7 52 yX7_isLetter := Or.inl (zT_of 513 rfl rfl)
set_option maxRecDepth 20000 in
theorem lX7_56 : zLk RX7 56 yX7_advanceOverWord := Or.inl (zT_of 516 rfl rfl)
set_option maxRecDepth 20000 in
theorem lX7_65 : zLk RX7 65 yX7_wordNumber := Or.inl (zT_of 520 rfl rfl)
set_option maxRecDepth 20000 in
theorem lX7_69 : zLk RX7 69 yX7_nameOf := Or.inl (zT_of 524 rfl rfl)
set_option maxRecDepth 20000 in
theorem lX7_73 : zLk RX7 73 yX7_spells := Or.inl (zT_of 532 rfl rfl)
set_option maxRecDepth 20000 in
theorem lX7_87 : zLk RX7 87 yJ0_length_8abf5 := Or.inl (zT_of 536 rfl rfl)
set_option maxRecDepth 20000 in
theorem lJ0_335 : zLk RJ0 335 yJ0_coder_7d493 := Or.inl (zT_of 540 rfl rfl)
set_option maxRecDepth 20000 in
theorem lX7_91 : zLk RX7 91 yJ0_charAt_5068e := Or.inl (zT_of 546 rfl rfl)
set_option maxRecDepth 20000 in
theorem lJ0_492 : zLk RJ0 492 yJ0_isLatin1_aae02 := Or.inl (zT_of 550 rfl rfl)
set_option maxRecDepth 20000 in
theorem lJ0_495 : zLk RJ0 495 yJ1_charAt_3b067 := Or.inl (zT_of 554 rfl rfl)
set_option maxRecDepth 20000 in
theorem lJ1_9 : zLk RJ1 9 yJ0_checkIndex_df160 := Or.inl (zT_of 557 rfl rfl)
set_option maxRecDepth 20000 in
theorem lJ0_1059 : zLk RJ0 1059 yJ3_checkIndex_8e157 := Or.inl (zT_of 562 rfl rfl)
set_option maxRecDepth 20000 in
theorem lJ0_498 : zLk RJ0 498 yJ2_charAt_3b067 := Or.inl (zT_of 565 rfl rfl)
set_option maxRecDepth 20000 in
theorem lJ2_67 : zLk RJ2 67 yJ2_checkIndex_2214a := Or.inl (zT_of 568 rfl rfl)
set_option maxRecDepth 20000 in
theorem lJ2_48 : zLk RJ2 48 yJ2_length_9d52b := Or.inl (zT_of 571 rfl rfl)
set_option maxRecDepth 20000 in
theorem lJ2_414 : zLk RJ2 414 yJ0_checkIndex_df160 := Or.inl (zT_of 574 rfl rfl)
set_option maxRecDepth 20000 in
theorem lJ2_71 : zLk RJ2 71 yJ2_getChar_3b067 := Or.inl (zT_of 575 rfl rfl)
set_option maxRecDepth 20000 in
theorem lX7_59 : zLk RX7 59 yX7_isFigure := Or.inl (zT_of 584 rfl rfl)
set_option maxRecDepth 20000 in
theorem lX7_62 : zLk RX7 62 yX7_advanceOverNumber := Or.inl (zT_of 587 rfl rfl)
set_option maxRecDepth 20000 in
theorem lX8_130 : zLk RX8 130 yX7_isAtEnd := Or.inl (zT_of 591 rfl rfl)
set_option maxRecDepth 20000 in
theorem lX8_134 : zLk RX8 134 yX7_takeItem := Or.inl (zT_of 595 rfl rfl)
set_option maxRecDepth 20000 in
theorem lX7_42 : zLk RX7 42 yX7_numbersDue := Or.inl (zT_of 599 rfl rfl)
set_option maxRecDepth 20000 in
theorem lX7_46 : zLk RX7 46 yX7_advance := Or.inl (zT_of 602 rfl rfl)
set_option maxRecDepth 20000 in
theorem lX8_137 : zLk RX8 137 yX7_place := Or.inl (zT_of 603 rfl rfl)
set_option maxRecDepth 20000 in
theorem lX8_140 : zLk RX8 140 yX8_tellItem := Or.inl (zT_of 607 rfl rfl)
set_option maxRecDepth 20000 in
theorem lX8_306 : zLk RX8 306 yX7_numberAt := Or.inl (zT_of 611 rfl rfl)
set_option maxRecDepth 20000 in
theorem lX8_309 : zLk RX8 309 yX7_word := Or.inl (zT_of 615 rfl rfl)
set_option maxRecDepth 20000 in
theorem lX8_144 : zLk RX8 144 yX1_become := Or.inl (zT_of 619 rfl rfl)
set_option maxRecDepth 20000 in
theorem lX1_39 : zLk RX1 39 yX6_become := Or.inl (zT_of 623 rfl rfl)
set_option maxRecDepth 20000 in
theorem lL_66 : zLk RL 66 yX8_fits := Or.inl (zT_of 627 rfl rfl)
set_option maxRecDepth 20000 in
theorem lX8_148 : zLk RX8 148 yX1_lidsFor := Or.inl (zT_of 631 rfl rfl)
set_option maxRecDepth 20000 in
theorem lL_70 : zLk RL 70 yX8_most := Or.inl (zT_of 635 rfl rfl)
set_option maxRecDepth 20000 in
theorem lX8_151 : zLk RX8 151 yX8_pairLids := Or.inl (zT_of 639 rfl rfl)
set_option maxRecDepth 20000 in
theorem lX8_181 : zLk RX8 181 yX6_size := Or.inl (zT_of 643 rfl rfl)
set_option maxRecDepth 20000 in
theorem lX8_184 : zLk RX8 184 yX4_begin := Or.inl (zT_of 644 rfl rfl)
set_option maxRecDepth 20000 in
theorem lX4_25 : Cond.methodLink RX4 25 Lib.Math.min.name ∈ zT := zT_of 648 rfl rfl
set_option maxRecDepth 20000 in
theorem lX4_31 : Cond.methodLink RX4 31 Lib.Math.max.name ∈ zT := zT_of 651 rfl rfl
set_option maxRecDepth 20000 in
theorem lX8_191 : zLk RX8 191 yX4_addRow := Or.inl (zT_of 652 rfl rfl)
set_option maxRecDepth 20000 in
theorem lX8_195 : zLk RX8 195 yX4_solve := Or.inl (zT_of 656 rfl rfl)
set_option maxRecDepth 20000 in
theorem lX4_37 : zLk RX4 37 yX4_bestOf := Or.inl (zT_of 660 rfl rfl)
set_option maxRecDepth 20000 in
theorem lX4_40 : zLk RX4 40 yX4_bestFrom := Or.inl (zT_of 664 rfl rfl)
set_option maxRecDepth 20000 in
theorem lX4_47 : zLk RX4 47 yX8_within := Or.inr ⟨"LidForEach", zTN_of 668 rfl rfl⟩
set_option maxRecDepth 20000 in
theorem lX4_43 : zLk RX4 43 yX4_bestWith := Or.inl (zT_of 669 rfl rfl)
set_option maxRecDepth 20000 in
theorem lX8_155 : zLk RX8 155 yX4_bestWithout := Or.inl (zT_of 673 rfl rfl)
set_option maxRecDepth 20000 in
theorem lX8_158 : zLk RX8 158 yX4_partner := Or.inl (zT_of 677 rfl rfl)
set_option maxRecDepth 20000 in
theorem lX4_51 : zLk RX4 51 yX4_leastColumn := Or.inl (zT_of 681 rfl rfl)
set_option maxRecDepth 20000 in
theorem lL_74 : zLk RL 74 yX8_lacking := Or.inl (zT_of 685 rfl rfl)
set_option maxRecDepth 20000 in
theorem lX8_161 : zLk RX8 161 yX0_lookAt := Or.inl (zT_of 689 rfl rfl)
set_option maxRecDepth 20000 in
theorem lX0_25 : zLk RX0 25 yX6_size := Or.inl (zT_of 693 rfl rfl)
set_option maxRecDepth 20000 in
theorem lX0_31 : Cond.methodLink RX0 31 Lib.Math.min.name ∈ zT := zT_of 694 rfl rfl
set_option maxRecDepth 20000 in
theorem lX0_41 : zLk RX0 41 yX1_lidsFor := Or.inl (zT_of 695 rfl rfl)
set_option maxRecDepth 20000 in
theorem lX0_45 : zLk RX0 45 yX0_lackOf := Or.inl (zT_of 696 rfl rfl)
set_option maxRecDepth 20000 in
theorem lX0_52 : zLk RX0 52 yX8_within := Or.inr ⟨"LidForEach", zTN_of 700 rfl rfl⟩
set_option maxRecDepth 20000 in
theorem lX0_56 : zLk RX0 56 yJ6_bitCount_0f7a4 := Or.inl (zT_of 701 rfl rfl)
set_option maxRecDepth 20000 in
theorem qJ6_265 : Cond.constant RJ6 265 (1431655765) ∈ zT := zT_of 704 rfl rfl
set_option maxRecDepth 20000 in
theorem qJ6_266 : Cond.constant RJ6 266 (858993459) ∈ zT := zT_of 705 rfl rfl
set_option maxRecDepth 20000 in
theorem qJ6_267 : Cond.constant RJ6 267 (252645135) ∈ zT := zT_of 706 rfl rfl
set_option maxRecDepth 20000 in
theorem lX0_48 : zLk RX0 48 yX0_areLiddedWithoutOne := Or.inl (zT_of 707 rfl rfl)
set_option maxRecDepth 20000 in
theorem lX8_164 : zLk RX8 164 yX0_shortest := Or.inl (zT_of 711 rfl rfl)
set_option maxRecDepth 20000 in
theorem lL_78 : zLk RL 78 yX8_soup := Or.inl (zT_of 715 rfl rfl)
set_option maxRecDepth 20000 in
theorem lX8_167 : zLk RX8 167 yX8_within := Or.inl (zT_of 719 rfl rfl)
set_option maxRecDepth 20000 in
theorem lX8_171 : zLk RX8 171 yX0_leastFor := Or.inl (zT_of 720 rfl rfl)
set_option maxRecDepth 20000 in
theorem qX0_61 : Cond.constant RX0 61 (1073741824) ∈ zT := zT_of 724 rfl rfl
set_option maxRecDepth 20000 in
theorem lX0_62 : zLk RX0 62 yX1_sumOver := Or.inl (zT_of 725 rfl rfl)
set_option maxRecDepth 20000 in
theorem lX8_175 : zLk RX8 175 yX1_sumOver := Or.inl (zT_of 729 rfl rfl)
set_option maxRecDepth 20000 in
theorem lL_82 : zLk RL 82 yX8_much := Or.inl (zT_of 730 rfl rfl)
set_option maxRecDepth 20000 in
theorem lL_86 : zLk RL 86 yX8_worth := Or.inl (zT_of 734 rfl rfl)
set_option maxRecDepth 20000 in
theorem lL_90 : zLk RL 90 yX8_spare := Or.inl (zT_of 738 rfl rfl)
set_option maxRecDepth 20000 in
theorem lL_94 : zLk RL 94 yX8_piles := Or.inl (zT_of 742 rfl rfl)
set_option maxRecDepth 20000 in
theorem lX8_188 : zLk RX8 188 yX1_boxesAround := Or.inl (zT_of 746 rfl rfl)
set_option maxRecDepth 20000 in
theorem lX1_90 : zLk RX1 90 yX1_goesInto := Or.inl (zT_of 750 rfl rfl)
set_option maxRecDepth 20000 in
theorem lL_98 : zLk RL 98 yX8_shelf := Or.inl (zT_of 754 rfl rfl)
set_option maxRecDepth 20000 in
theorem lX8_198 : zLk RX8 198 yX5_begin := Or.inl (zT_of 758 rfl rfl)
set_option maxRecDepth 20000 in
theorem lX8_200 : zLk RX8 200 yX5_add := Or.inl (zT_of 762 rfl rfl)
set_option maxRecDepth 20000 in
theorem lX8_203 : zLk RX8 203 yX8_shelfCost := Or.inl (zT_of 766 rfl rfl)
set_option maxRecDepth 20000 in
theorem lX8_206 : zLk RX8 206 yX5_itemAt := Or.inl (zT_of 770 rfl rfl)
set_option maxRecDepth 20000 in
theorem lX5_19 : zLk RX5 19 yX5_placeOf := Or.inl (zT_of 774 rfl rfl)
set_option maxRecDepth 20000 in
theorem lL_102 : zLk RL 102 yX8_buy := Or.inl (zT_of 778 rfl rfl)
set_option maxRecDepth 20000 in
theorem lX8_212 : zLk RX8 212 yX8_leastPurchase := Or.inl (zT_of 782 rfl rfl)
set_option maxRecDepth 20000 in
theorem lX8_312 : zLk RX8 312 yX1_purchaseFor := Or.inl (zT_of 786 rfl rfl)
set_option maxRecDepth 20000 in
theorem qX1_93 : Cond.constant RX1 93 (67108864) ∈ zT := zT_of 790 rfl rfl
set_option maxRecDepth 20000 in
theorem lX1_94 : zLk RX1 94 yX8_sortShift := Or.inr ⟨"LidForEach", zTN_of 791 rfl rfl⟩
set_option maxRecDepth 20000 in
theorem lX1_97 : Cond.methodLink RX1 97 Lib.Math.min.name ∈ zT := zT_of 794 rfl rfl
set_option maxRecDepth 20000 in
theorem qX8_215 : Cond.constant RX8 215 (67108864) ∈ zT := zT_of 795 rfl rfl
set_option maxRecDepth 20000 in
theorem lX8_216 : zLk RX8 216 yX8_sortShift := Or.inl (zT_of 796 rfl rfl)
set_option maxRecDepth 20000 in
theorem lL_106 : zLk RL 106 yX8_tries := Or.inl (zT_of 797 rfl rfl)
set_option maxRecDepth 20000 in
theorem lX8_219 : zLk RX8 219 yX8_rankTries := Or.inl (zT_of 801 rfl rfl)
set_option maxRecDepth 20000 in
theorem lX8_315 : zLk RX8 315 yX1_firstSureLid := Or.inl (zT_of 805 rfl rfl)
set_option maxRecDepth 20000 in
theorem lX8_222 : zLk RX8 222 yX8_meanOfTries := Or.inl (zT_of 809 rfl rfl)
set_option maxRecDepth 20000 in
theorem qX8_318 : Cond.constantLong RX8 318 (10) ∈ zT := zT_of 813 rfl rfl
set_option maxRecDepth 20000 in
theorem lX8_320 : zLk RX8 320 yX3_become := Or.inl (zT_of 814 rfl rfl)
set_option maxRecDepth 20000 in
theorem lX3_13 : zLk RX3 13 yX3_greatestDivisor := Or.inl (zT_of 818 rfl rfl)
set_option maxRecDepth 20000 in
theorem lL_110 : zLk RL 110 yX8_nuts := Or.inl (zT_of 821 rfl rfl)
set_option maxRecDepth 20000 in
theorem lX8_225 : zLk RX8 225 yX8_factorial := Or.inl (zT_of 825 rfl rfl)
set_option maxRecDepth 20000 in
theorem lX8_228 : zLk RX8 228 yX8_meanOfNuts := Or.inl (zT_of 828 rfl rfl)
set_option maxRecDepth 20000 in
theorem lL_114 : zLk RL 114 yX8_lend := Or.inl (zT_of 832 rfl rfl)
set_option maxRecDepth 20000 in
theorem lX8_231 : zLk RX8 231 yX1_addTale := Or.inl (zT_of 836 rfl rfl)
set_option maxRecDepth 20000 in
theorem lL_118 : zLk RL 118 yX8_has := Or.inl (zT_of 840 rfl rfl)
set_option maxRecDepth 20000 in
theorem lX8_237 : zLk RX8 237 yX1_holderAfter := Or.inl (zT_of 844 rfl rfl)
set_option maxRecDepth 20000 in
theorem lL_122 : zLk RL 122 yX8_wrong := Or.inl (zT_of 848 rfl rfl)
set_option maxRecDepth 20000 in
theorem lX8_240 : zLk RX8 240 yX1_firstWrongTale := Or.inl (zT_of 852 rfl rfl)
set_option maxRecDepth 20000 in
theorem lX1_102 : zLk RX1 102 yX1_holderAfter := Or.inl (zT_of 856 rfl rfl)
set_option maxRecDepth 20000 in
theorem lL_126 : zLk RL 126 yX8_hint := Or.inl (zT_of 857 rfl rfl)
set_option maxRecDepth 20000 in
theorem lX8_243 : zLk RX8 243 yX1_addHint := Or.inl (zT_of 861 rfl rfl)
set_option maxRecDepth 20000 in
theorem lL_130 : zLk RL 130 yX8_forget := Or.inl (zT_of 865 rfl rfl)
set_option maxRecDepth 20000 in
theorem lX8_246 : zLk RX8 246 yX6_drop := Or.inl (zT_of 869 rfl rfl)
set_option maxRecDepth 20000 in
theorem lL_134 : zLk RL 134 yX8_labels := Or.inl (zT_of 870 rfl rfl)
set_option maxRecDepth 20000 in
theorem lX8_250 : zLk RX8 250 yX2_lookAt := Or.inl (zT_of 874 rfl rfl)
set_option maxRecDepth 20000 in
theorem lX2_39 : zLk RX2 39 yX6_size := Or.inl (zT_of 878 rfl rfl)
set_option maxRecDepth 20000 in
theorem lX2_45 : Cond.methodLink RX2 45 Lib.Math.min.name ∈ zT := zT_of 879 rfl rfl
set_option maxRecDepth 20000 in
theorem lX2_54 : zLk RX2 54 yX6_at := Or.inl (zT_of 880 rfl rfl)
set_option maxRecDepth 20000 in
theorem lX2_60 : zLk RX2 60 yX2_heed := Or.inl (zT_of 881 rfl rfl)
set_option maxRecDepth 20000 in
theorem lX2_77 : zLk RX2 77 yX8_within := Or.inr ⟨"LidForEach", zTN_of 885 rfl rfl⟩
set_option maxRecDepth 20000 in
theorem lX2_64 : zLk RX2 64 yJ7_fill_53178 := Or.inl (zT_of 886 rfl rfl)
set_option maxRecDepth 20000 in
theorem lX2_70 : zLk RX2 70 yX2_waysFrom := Or.inl (zT_of 889 rfl rfl)
set_option maxRecDepth 20000 in
theorem lX2_81 : zLk RX2 81 yX2_mayBeIn := Or.inl (zT_of 892 rfl rfl)
set_option maxRecDepth 20000 in
theorem lX2_84 : zLk RX2 84 yX2_agreesBySize := Or.inl (zT_of 896 rfl rfl)
set_option maxRecDepth 20000 in
theorem lX2_87 : zLk RX2 87 yX2_sizeAt := Or.inl (zT_of 900 rfl rfl)
set_option maxRecDepth 20000 in
theorem lX8_251 : zLk RX8 251 yX2_allWays := Or.inl (zT_of 904 rfl rfl)
set_option maxRecDepth 20000 in
theorem lX8_254 : zLk RX8 254 yX2_boxesOf := Or.inl (zT_of 908 rfl rfl)
set_option maxRecDepth 20000 in
theorem lX2_91 : zLk RX2 91 yX2_waysWith := Or.inl (zT_of 912 rfl rfl)
set_option maxRecDepth 20000 in
theorem lX8_257 : zLk RX8 257 yX2_boxToOpen := Or.inl (zT_of 916 rfl rfl)
set_option maxRecDepth 20000 in
theorem qX2_94 : Cond.constant RX2 94 (1073741824) ∈ zT := zT_of 920 rfl rfl
set_option maxRecDepth 20000 in
theorem lX2_95 : zLk RX2 95 yX2_worstBehind := Or.inl (zT_of 921 rfl rfl)
set_option maxRecDepth 20000 in
theorem lX2_98 : Cond.methodLink RX2 98 Lib.Math.max.name ∈ zT := zT_of 925 rfl rfl
set_option maxRecDepth 20000 in
theorem lL_138 : zLk RL 138 yX8_evening := Or.inl (zT_of 926 rfl rfl)
set_option maxRecDepth 20000 in
theorem qX8_260 : Cond.constant RX8 260 (999999) ∈ zT := zT_of 930 rfl rfl
set_option maxRecDepth 20000 in
theorem lX8_261 : zLk RX8 261 yX1_openAfter := Or.inl (zT_of 931 rfl rfl)
set_option maxRecDepth 20000 in
theorem qX1_105 : Cond.constantLong RX1 105 (1103515245) ∈ zT := zT_of 935 rfl rfl
set_option maxRecDepth 20000 in
theorem qX1_107 : Cond.constantLong RX1 107 (12345) ∈ zT := zT_of 936 rfl rfl
set_option maxRecDepth 20000 in
theorem qX1_109 : Cond.constantLong RX1 109 (2147483648) ∈ zT := zT_of 937 rfl rfl
set_option maxRecDepth 20000 in
theorem qX1_111 : Cond.constantLong RX1 111 (65536) ∈ zT := zT_of 938 rfl rfl
set_option maxRecDepth 20000 in
theorem lX1_113 : zLk RX1 113 yX1_lidsFor := Or.inl (zT_of 939 rfl rfl)
set_option maxRecDepth 20000 in
theorem lX1_116 : zLk RX1 116 yJ6_lowestOneBit_0f7a4 := Or.inl (zT_of 940 rfl rfl)
set_option maxRecDepth 20000 in
theorem lL_142 : zLk RL 142 yX8_part := Or.inl (zT_of 943 rfl rfl)
set_option maxRecDepth 20000 in
theorem lL_147 : zLk RL 147 yX8_image := Or.inl (zT_of 947 rfl rfl)
set_option maxRecDepth 20000 in
theorem lX8_271 : zLk RX8 271 yX8_imageAt := Or.inl (zT_of 951 rfl rfl)
set_option maxRecDepth 20000 in
theorem lL_151 : zLk RL 151 yX8_from := Or.inl (zT_of 955 rfl rfl)
set_option maxRecDepth 20000 in
theorem lL_155 : zLk RL 155 yX8_status := Or.inl (zT_of 959 rfl rfl)
set_option maxRecDepth 20000 in
theorem lL_159 : zLk RL 159 yX8_count := Or.inl (zT_of 963 rfl rfl)
set_option maxRecDepth 20000 in
theorem lX8_288 : zLk RX8 288 yX8_howMany := Or.inl (zT_of 967 rfl rfl)
set_option maxRecDepth 20000 in
theorem lX8_299 : zLk RX8 299 yX1_lidsInUse := Or.inl (zT_of 971 rfl rfl)
set_option maxRecDepth 20000 in
theorem lX8_305 : zLk RX8 305 yX7_size := Or.inl (zT_of 975 rfl rfl)
set_option maxRecDepth 20000 in
theorem lL_163 : zLk RL 163 yX8_digest := Or.inl (zT_of 979 rfl rfl)
set_option maxRecDepth 20000 in
theorem qX8_291 : Cond.constantLong RX8 291 (857) ∈ zT := zT_of 983 rfl rfl
set_option maxRecDepth 20000 in
theorem qX8_293 : Cond.constantLong RX8 293 (31) ∈ zT := zT_of 984 rfl rfl
set_option maxRecDepth 20000 in
theorem lX8_295 : zLk RX8 295 yX6_mixedInto := Or.inl (zT_of 985 rfl rfl)
set_option maxRecDepth 20000 in
theorem qX6_45 : Cond.constantLong RX6 45 (31) ∈ zT := zT_of 989 rfl rfl
set_option maxRecDepth 20000 in
theorem lX6_47 : zLk RX6 47 yX6_at := Or.inl (zT_of 990 rfl rfl)
set_option maxRecDepth 20000 in
theorem nL_10 : zNew RL 10 9 24 [.long 0, .long 0, .null, .int 0, .null, .null, .null, .int 0, .int 0, .int 0, .int 0, .int 0, .int 0, .int 0, .null, .null, .null, .null, .null, .null, .null, .null, .null, .null] := ⟨RX9, TX9, tyX9, rfl, uX9, tyX9_ok, zT_of 991 rfl rfl, zT_of 992 rfl rfl, zT_of 88 rfl rfl, by decide +kernel, fun _ => rfl⟩
set_option maxRecDepth 20000 in
theorem lL_12 : zLk RL 12 yX9_init := Or.inl (zT_of 993 rfl rfl)
set_option maxRecDepth 20000 in
theorem lX9_1 : Cond.methodLink RX9 1 Lib.objectInit ∈ zT := zT_of 996 rfl rfl
set_option maxRecDepth 20000 in
theorem fX9_210 : zF RX9 210 9 0 := ⟨RX9, TX9, 24, rfl, by decide, uX9, Or.inl (zT_of 997 rfl rfl)⟩
set_option maxRecDepth 20000 in
theorem pX9_210 : zP RX9 210 9 0 .long false := ⟨RX9, TX9, 24, tyX9, rfl, by decide, uX9, zT_of 997 rfl rfl, tyX9_ok, nmX9, by decide +kernel, rfl, rfl⟩
set_option maxRecDepth 20000 in
theorem fX9_54 : zF RX9 54 9 1 := ⟨RX9, TX9, 24, rfl, by decide, uX9, Or.inl (zT_of 998 rfl rfl)⟩
set_option maxRecDepth 20000 in
theorem pX9_54 : zP RX9 54 9 1 .long false := ⟨RX9, TX9, 24, tyX9, rfl, by decide, uX9, zT_of 998 rfl rfl, tyX9_ok, nmX9, by decide +kernel, rfl, rfl⟩
set_option maxRecDepth 20000 in
theorem fX9_7 : zF RX9 7 9 2 := ⟨RX9, TX9, 24, rfl, by decide, uX9, Or.inl (zT_of 999 rfl rfl)⟩
set_option maxRecDepth 20000 in
theorem pX9_7 : zP RX9 7 9 2 (.array .int) true := ⟨RX9, TX9, 24, tyX9, rfl, by decide, uX9, zT_of 999 rfl rfl, tyX9_ok, nmX9, by decide +kernel, rfl, rfl⟩
set_option maxRecDepth 20000 in
theorem fX9_58 : zF RX9 58 9 3 := ⟨RX9, TX9, 24, rfl, by decide, uX9, Or.inl (zT_of 1000 rfl rfl)⟩
set_option maxRecDepth 20000 in
theorem pX9_58 : zP RX9 58 9 3 .int false := ⟨RX9, TX9, 24, tyX9, rfl, by decide, uX9, zT_of 1000 rfl rfl, tyX9_ok, nmX9, by decide +kernel, rfl, rfl⟩
set_option maxRecDepth 20000 in
theorem fX9_13 : zF RX9 13 9 4 := ⟨RX9, TX9, 24, rfl, by decide, uX9, Or.inl (zT_of 1001 rfl rfl)⟩
set_option maxRecDepth 20000 in
theorem pX9_13 : zP RX9 13 9 4 (.array .boolean) true := ⟨RX9, TX9, 24, tyX9, rfl, by decide, uX9, zT_of 1001 rfl rfl, tyX9_ok, nmX9, by decide +kernel, rfl, rfl⟩
set_option maxRecDepth 20000 in
theorem fX9_17 : zF RX9 17 9 5 := ⟨RX9, TX9, 24, rfl, by decide, uX9, Or.inl (zT_of 1002 rfl rfl)⟩
set_option maxRecDepth 20000 in
theorem pX9_17 : zP RX9 17 9 5 (.array .int) true := ⟨RX9, TX9, 24, tyX9, rfl, by decide, uX9, zT_of 1002 rfl rfl, tyX9_ok, nmX9, by decide +kernel, rfl, rfl⟩
set_option maxRecDepth 20000 in
theorem fX9_20 : zF RX9 20 9 6 := ⟨RX9, TX9, 24, rfl, by decide, uX9, Or.inl (zT_of 1003 rfl rfl)⟩
set_option maxRecDepth 20000 in
theorem pX9_20 : zP RX9 20 9 6 (.array .byte) true := ⟨RX9, TX9, 24, tyX9, rfl, by decide, uX9, zT_of 1003 rfl rfl, tyX9_ok, nmX9, by decide +kernel, rfl, rfl⟩
set_option maxRecDepth 20000 in
theorem fX9_129 : zF RX9 129 9 7 := ⟨RX9, TX9, 24, rfl, by decide, uX9, Or.inl (zT_of 1004 rfl rfl)⟩
set_option maxRecDepth 20000 in
theorem pX9_129 : zP RX9 129 9 7 .int false := ⟨RX9, TX9, 24, tyX9, rfl, by decide, uX9, zT_of 1004 rfl rfl, tyX9_ok, nmX9, by decide +kernel, rfl, rfl⟩
set_option maxRecDepth 20000 in
theorem fX9_132 : zF RX9 132 9 8 := ⟨RX9, TX9, 24, rfl, by decide, uX9, Or.inl (zT_of 1005 rfl rfl)⟩
set_option maxRecDepth 20000 in
theorem pX9_132 : zP RX9 132 9 8 .int false := ⟨RX9, TX9, 24, tyX9, rfl, by decide, uX9, zT_of 1005 rfl rfl, tyX9_ok, nmX9, by decide +kernel, rfl, rfl⟩
set_option maxRecDepth 20000 in
theorem fX9_138 : zF RX9 138 9 9 := ⟨RX9, TX9, 24, rfl, by decide, uX9, Or.inl (zT_of 1006 rfl rfl)⟩
set_option maxRecDepth 20000 in
theorem pX9_138 : zP RX9 138 9 9 .int false := ⟨RX9, TX9, 24, tyX9, rfl, by decide, uX9, zT_of 1006 rfl rfl, tyX9_ok, nmX9, by decide +kernel, rfl, rfl⟩
set_option maxRecDepth 20000 in
theorem fX9_144 : zF RX9 144 9 10 := ⟨RX9, TX9, 24, rfl, by decide, uX9, Or.inl (zT_of 1007 rfl rfl)⟩
set_option maxRecDepth 20000 in
theorem pX9_144 : zP RX9 144 9 10 .int false := ⟨RX9, TX9, 24, tyX9, rfl, by decide, uX9, zT_of 1007 rfl rfl, tyX9_ok, nmX9, by decide +kernel, rfl, rfl⟩
set_option maxRecDepth 20000 in
theorem fX9_141 : zF RX9 141 9 11 := ⟨RX9, TX9, 24, rfl, by decide, uX9, Or.inl (zT_of 1008 rfl rfl)⟩
set_option maxRecDepth 20000 in
theorem pX9_141 : zP RX9 141 9 11 .int false := ⟨RX9, TX9, 24, tyX9, rfl, by decide, uX9, zT_of 1008 rfl rfl, tyX9_ok, nmX9, by decide +kernel, rfl, rfl⟩
set_option maxRecDepth 20000 in
theorem fX9_150 : zF RX9 150 9 12 := ⟨RX9, TX9, 24, rfl, by decide, uX9, Or.inl (zT_of 1009 rfl rfl)⟩
set_option maxRecDepth 20000 in
theorem pX9_150 : zP RX9 150 9 12 .int false := ⟨RX9, TX9, 24, tyX9, rfl, by decide, uX9, zT_of 1009 rfl rfl, tyX9_ok, nmX9, by decide +kernel, rfl, rfl⟩
set_option maxRecDepth 20000 in
theorem fX9_156 : zF RX9 156 9 13 := ⟨RX9, TX9, 24, rfl, by decide, uX9, Or.inl (zT_of 1010 rfl rfl)⟩
set_option maxRecDepth 20000 in
theorem pX9_156 : zP RX9 156 9 13 .int false := ⟨RX9, TX9, 24, tyX9, rfl, by decide, uX9, zT_of 1010 rfl rfl, tyX9_ok, nmX9, by decide +kernel, rfl, rfl⟩
set_option maxRecDepth 20000 in
theorem fX9_24 : zF RX9 24 9 14 := ⟨RX9, TX9, 24, rfl, by decide, uX9, Or.inl (zT_of 1011 rfl rfl)⟩
set_option maxRecDepth 20000 in
theorem pX9_24 : zP RX9 24 9 14 (.array .int) true := ⟨RX9, TX9, 24, tyX9, rfl, by decide, uX9, zT_of 1011 rfl rfl, tyX9_ok, nmX9, by decide +kernel, rfl, rfl⟩
set_option maxRecDepth 20000 in
theorem fX9_27 : zF RX9 27 9 15 := ⟨RX9, TX9, 24, rfl, by decide, uX9, Or.inl (zT_of 1012 rfl rfl)⟩
set_option maxRecDepth 20000 in
theorem pX9_27 : zP RX9 27 9 15 (.array .int) true := ⟨RX9, TX9, 24, tyX9, rfl, by decide, uX9, zT_of 1012 rfl rfl, tyX9_ok, nmX9, by decide +kernel, rfl, rfl⟩
set_option maxRecDepth 20000 in
theorem fX9_30 : zF RX9 30 9 16 := ⟨RX9, TX9, 24, rfl, by decide, uX9, Or.inl (zT_of 1013 rfl rfl)⟩
set_option maxRecDepth 20000 in
theorem pX9_30 : zP RX9 30 9 16 (.array .int) true := ⟨RX9, TX9, 24, tyX9, rfl, by decide, uX9, zT_of 1013 rfl rfl, tyX9_ok, nmX9, by decide +kernel, rfl, rfl⟩
set_option maxRecDepth 20000 in
theorem fX9_33 : zF RX9 33 9 17 := ⟨RX9, TX9, 24, rfl, by decide, uX9, Or.inl (zT_of 1014 rfl rfl)⟩
set_option maxRecDepth 20000 in
theorem pX9_33 : zP RX9 33 9 17 (.array .int) true := ⟨RX9, TX9, 24, tyX9, rfl, by decide, uX9, zT_of 1014 rfl rfl, tyX9_ok, nmX9, by decide +kernel, rfl, rfl⟩
set_option maxRecDepth 20000 in
theorem fX9_36 : zF RX9 36 9 18 := ⟨RX9, TX9, 24, rfl, by decide, uX9, Or.inl (zT_of 1015 rfl rfl)⟩
set_option maxRecDepth 20000 in
theorem pX9_36 : zP RX9 36 9 18 (.array .boolean) true := ⟨RX9, TX9, 24, tyX9, rfl, by decide, uX9, zT_of 1015 rfl rfl, tyX9_ok, nmX9, by decide +kernel, rfl, rfl⟩
set_option maxRecDepth 20000 in
theorem fX9_39 : zF RX9 39 9 19 := ⟨RX9, TX9, 24, rfl, by decide, uX9, Or.inl (zT_of 1016 rfl rfl)⟩
set_option maxRecDepth 20000 in
theorem pX9_39 : zP RX9 39 9 19 (.array .boolean) true := ⟨RX9, TX9, 24, tyX9, rfl, by decide, uX9, zT_of 1016 rfl rfl, tyX9_ok, nmX9, by decide +kernel, rfl, rfl⟩
set_option maxRecDepth 20000 in
theorem fX9_42 : zF RX9 42 9 20 := ⟨RX9, TX9, 24, rfl, by decide, uX9, Or.inl (zT_of 1017 rfl rfl)⟩
set_option maxRecDepth 20000 in
theorem pX9_42 : zP RX9 42 9 20 (.array .int) true := ⟨RX9, TX9, 24, tyX9, rfl, by decide, uX9, zT_of 1017 rfl rfl, tyX9_ok, nmX9, by decide +kernel, rfl, rfl⟩
set_option maxRecDepth 20000 in
theorem fX9_45 : zF RX9 45 9 21 := ⟨RX9, TX9, 24, rfl, by decide, uX9, Or.inl (zT_of 1018 rfl rfl)⟩
set_option maxRecDepth 20000 in
theorem pX9_45 : zP RX9 45 9 21 (.array .int) true := ⟨RX9, TX9, 24, tyX9, rfl, by decide, uX9, zT_of 1018 rfl rfl, tyX9_ok, nmX9, by decide +kernel, rfl, rfl⟩
set_option maxRecDepth 20000 in
theorem fX9_48 : zF RX9 48 9 22 := ⟨RX9, TX9, 24, rfl, by decide, uX9, Or.inl (zT_of 1019 rfl rfl)⟩
set_option maxRecDepth 20000 in
theorem pX9_48 : zP RX9 48 9 22 (.array .int) true := ⟨RX9, TX9, 24, tyX9, rfl, by decide, uX9, zT_of 1019 rfl rfl, tyX9_ok, nmX9, by decide +kernel, rfl, rfl⟩
set_option maxRecDepth 20000 in
theorem fX9_51 : zF RX9 51 9 23 := ⟨RX9, TX9, 24, rfl, by decide, uX9, Or.inl (zT_of 1020 rfl rfl)⟩
set_option maxRecDepth 20000 in
theorem pX9_51 : zP RX9 51 9 23 (.array .int) true := ⟨RX9, TX9, 24, tyX9, rfl, by decide, uX9, zT_of 1020 rfl rfl, tyX9_ok, nmX9, by decide +kernel, rfl, rfl⟩
set_option maxRecDepth 20000 in
theorem lL_17 : zLk RL 17 yX9_box := Or.inl (zT_of 1070 rfl rfl)
set_option maxRecDepth 20000 in
theorem lX9_108 : zLk RX9 108 yX9_addBox := Or.inl (zT_of 1074 rfl rfl)
set_option maxRecDepth 20000 in
theorem lX9_66 : zLk RX9 66 yX9_in := Or.inl (zT_of 1078 rfl rfl)
set_option maxRecDepth 20000 in
theorem lX9_62 : zLk RX9 62 yX9_get := Or.inl (zT_of 1081 rfl rfl)
set_option maxRecDepth 20000 in
theorem lX9_73 : zLk RX9 73 yX9_put1 := Or.inl (zT_of 1085 rfl rfl)
set_option maxRecDepth 20000 in
theorem lX9_70 : zLk RX9 70 yX9_told := Or.inl (zT_of 1089 rfl rfl)
set_option maxRecDepth 20000 in
theorem lL_21 : zLk RL 21 yX9_lid := Or.inl (zT_of 1093 rfl rfl)
set_option maxRecDepth 20000 in
theorem lX9_112 : zLk RX9 112 yX9_addLid := Or.inl (zT_of 1097 rfl rfl)
set_option maxRecDepth 20000 in
theorem lL_26 : zLk RL 26 yX9_put := Or.inl (zT_of 1101 rfl rfl)
set_option maxRecDepth 20000 in
theorem lX9_115 : zLk RX9 115 yX9_putOn := Or.inl (zT_of 1105 rfl rfl)
set_option maxRecDepth 20000 in
theorem lX9_91 : zLk RX9 91 yX9_isLid := Or.inl (zT_of 1109 rfl rfl)
set_option maxRecDepth 20000 in
theorem lX9_95 : zLk RX9 95 yX9_isBox := Or.inl (zT_of 1113 rfl rfl)
set_option maxRecDepth 20000 in
theorem lX9_98 : zLk RX9 98 yX9_doesFit := Or.inl (zT_of 1117 rfl rfl)
set_option maxRecDepth 20000 in
theorem lX9_84 : zLk RX9 84 yX9_ofLid := Or.inl (zT_of 1121 rfl rfl)
set_option maxRecDepth 20000 in
theorem lX9_87 : zLk RX9 87 yX9_fitsAs := Or.inl (zT_of 1125 rfl rfl)
set_option maxRecDepth 20000 in
theorem lX9_77 : zLk RX9 77 yX9_ofBox := Or.inl (zT_of 1129 rfl rfl)
set_option maxRecDepth 20000 in
theorem lX9_81 : zLk RX9 81 yX9_isPlain := Or.inl (zT_of 1133 rfl rfl)
set_option maxRecDepth 20000 in
theorem lX9_102 : zLk RX9 102 yX9_boxOf := Or.inl (zT_of 1137 rfl rfl)
set_option maxRecDepth 20000 in
theorem lX9_105 : zLk RX9 105 yX9_know := Or.inl (zT_of 1141 rfl rfl)
set_option maxRecDepth 20000 in
theorem lL_31 : zLk RL 31 yX9_off := Or.inl (zT_of 1145 rfl rfl)
set_option maxRecDepth 20000 in
theorem lL_36 : zLk RL 36 yX9_undo := Or.inl (zT_of 1149 rfl rfl)
set_option maxRecDepth 20000 in
theorem lL_40 : zLk RL 40 yX9_on := Or.inl (zT_of 1153 rfl rfl)
set_option maxRecDepth 20000 in
theorem lX9_118 : zLk RX9 118 yX9_bad10 := Or.inl (zT_of 1157 rfl rfl)
set_option maxRecDepth 20000 in
theorem lL_44 : zLk RL 44 yX9_grasp := Or.inl (zT_of 1161 rfl rfl)
set_option maxRecDepth 20000 in
theorem lX9_122 : zLk RX9 122 yX9_setGrasp := Or.inl (zT_of 1165 rfl rfl)
set_option maxRecDepth 20000 in
theorem lL_49 : zLk RL 49 yX9_sort := Or.inl (zT_of 1169 rfl rfl)
set_option maxRecDepth 20000 in
theorem lX9_125 : zLk RX9 125 yX9_addSort := Or.inl (zT_of 1173 rfl rfl)
set_option maxRecDepth 20000 in
theorem lL_53 : zLk RL 53 yX9_eye := Or.inl (zT_of 1177 rfl rfl)
set_option maxRecDepth 20000 in
theorem lL_57 : zLk RL 57 yX9_type := Or.inl (zT_of 1181 rfl rfl)
set_option maxRecDepth 20000 in
theorem lL_61 : zLk RL 61 yX9_clear := Or.inl (zT_of 1185 rfl rfl)
set_option maxRecDepth 20000 in
theorem lL_65 : zLk RL 65 yX9_read := Or.inl (zT_of 1189 rfl rfl)
set_option maxRecDepth 20000 in
theorem lX9_153 : zLk RX9 153 yX9_next := Or.inl (zT_of 1193 rfl rfl)
set_option maxRecDepth 20000 in
theorem lX9_135 : zLk RX9 135 yX9_here := Or.inl (zT_of 1197 rfl rfl)
set_option maxRecDepth 20000 in
theorem lX9_147 : zLk RX9 147 yX9_meaning := Or.inl (zT_of 1201 rfl rfl)
set_option maxRecDepth 20000 in
theorem lX9_159 : zLk RX9 159 yX9_due := Or.inl (zT_of 1204 rfl rfl)
set_option maxRecDepth 20000 in
theorem lX9_163 : zLk RX9 163 yX9_doItem := Or.inl (zT_of 1208 rfl rfl)
set_option maxRecDepth 20000 in
theorem lX9_166 : zLk RX9 166 yX9_copy := Or.inl (zT_of 1212 rfl rfl)
set_option maxRecDepth 20000 in
theorem lL_69 : zLk RL 69 yX9_fits := Or.inl (zT_of 1216 rfl rfl)
set_option maxRecDepth 20000 in
theorem lX9_172 : zLk RX9 172 yX9_findFits := Or.inl (zT_of 1220 rfl rfl)
set_option maxRecDepth 20000 in
theorem lL_73 : zLk RL 73 yX9_most := Or.inl (zT_of 1224 rfl rfl)
set_option maxRecDepth 20000 in
theorem lX9_175 : zLk RX9 175 yX9_boxes := Or.inl (zT_of 1228 rfl rfl)
set_option maxRecDepth 20000 in
theorem lX9_178 : zLk RX9 178 yX9_lids := Or.inl (zT_of 1232 rfl rfl)
set_option maxRecDepth 20000 in
theorem lX9_181 : zLk RX9 181 yX9_findFirst := Or.inl (zT_of 1236 rfl rfl)
set_option maxRecDepth 20000 in
theorem lX9_169 : zLk RX9 169 yX9_mostOf := Or.inl (zT_of 1240 rfl rfl)
set_option maxRecDepth 20000 in
theorem lL_77 : zLk RL 77 yX9_lacking := Or.inl (zT_of 1244 rfl rfl)
set_option maxRecDepth 20000 in
theorem lX9_184 : zLk RX9 184 yX9_manyOf := Or.inl (zT_of 1248 rfl rfl)
set_option maxRecDepth 20000 in
theorem lL_81 : zLk RL 81 yX9_soup := Or.inl (zT_of 1251 rfl rfl)
set_option maxRecDepth 20000 in
theorem lX9_187 : zLk RX9 187 yX9_sumOf := Or.inl (zT_of 1255 rfl rfl)
set_option maxRecDepth 20000 in
theorem lX9_190 : zLk RX9 190 yX9_isCovered := Or.inl (zT_of 1259 rfl rfl)
set_option maxRecDepth 20000 in
theorem lL_85 : zLk RL 85 yX9_much := Or.inl (zT_of 1263 rfl rfl)
set_option maxRecDepth 20000 in
theorem lX9_193 : zLk RX9 193 yX9_muchBy := Or.inl (zT_of 1267 rfl rfl)
set_option maxRecDepth 20000 in
theorem lL_89 : zLk RL 89 yX9_worth := Or.inl (zT_of 1271 rfl rfl)
set_option maxRecDepth 20000 in
theorem lL_93 : zLk RL 93 yX9_spare := Or.inl (zT_of 1275 rfl rfl)
set_option maxRecDepth 20000 in
theorem lL_97 : zLk RL 97 yX9_piles := Or.inl (zT_of 1279 rfl rfl)
set_option maxRecDepth 20000 in
theorem lL_101 : zLk RL 101 yX9_shelf := Or.inl (zT_of 1283 rfl rfl)
set_option maxRecDepth 20000 in
theorem lL_105 : zLk RL 105 yX9_buy := Or.inl (zT_of 1287 rfl rfl)
set_option maxRecDepth 20000 in
theorem lX9_201 : zLk RX9 201 yX9_manyIn := Or.inl (zT_of 1291 rfl rfl)
set_option maxRecDepth 20000 in
theorem lX9_204 : zLk RX9 204 yX9_priceOf := Or.inl (zT_of 1294 rfl rfl)
set_option maxRecDepth 20000 in
theorem qX9_200 : Cond.constant RX9 200 (100000) ∈ zT := zT_of 1298 rfl rfl
set_option maxRecDepth 20000 in
theorem lX9_207 : zLk RX9 207 yX9_isEnough := Or.inl (zT_of 1299 rfl rfl)
set_option maxRecDepth 20000 in
theorem lX9_196 : zLk RX9 196 yX9_buyOne := Or.inl (zT_of 1303 rfl rfl)
set_option maxRecDepth 20000 in
theorem lL_109 : zLk RL 109 yX9_tries := Or.inl (zT_of 1307 rfl rfl)
set_option maxRecDepth 20000 in
theorem lX9_215 : zLk RX9 215 yX9_firstOrder := Or.inl (zT_of 1311 rfl rfl)
set_option maxRecDepth 20000 in
theorem qX9_218 : Cond.constantLong RX9 218 (-1) ∈ zT := zT_of 1315 rfl rfl
set_option maxRecDepth 20000 in
theorem lX9_220 : zLk RX9 220 yX9_meanBy := Or.inl (zT_of 1316 rfl rfl)
set_option maxRecDepth 20000 in
theorem qX9_213 : Cond.constantLong RX9 213 (10) ∈ zT := zT_of 1320 rfl rfl
set_option maxRecDepth 20000 in
theorem lX9_224 : zLk RX9 224 yX9_nextOrder := Or.inl (zT_of 1321 rfl rfl)
set_option maxRecDepth 20000 in
theorem lX9_227 : zLk RX9 227 yX9_fraction := Or.inl (zT_of 1325 rfl rfl)
set_option maxRecDepth 20000 in
theorem lL_113 : zLk RL 113 yX9_nuts := Or.inl (zT_of 1329 rfl rfl)
set_option maxRecDepth 20000 in
theorem lL_117 : zLk RL 117 yX9_lend := Or.inl (zT_of 1333 rfl rfl)
set_option maxRecDepth 20000 in
theorem lL_121 : zLk RL 121 yX9_has := Or.inl (zT_of 1337 rfl rfl)
set_option maxRecDepth 20000 in
theorem lX9_231 : zLk RX9 231 yX9_whoHas := Or.inl (zT_of 1341 rfl rfl)
set_option maxRecDepth 20000 in
theorem lL_125 : zLk RL 125 yX9_wrong := Or.inl (zT_of 1345 rfl rfl)
set_option maxRecDepth 20000 in
theorem lL_129 : zLk RL 129 yX9_hint := Or.inl (zT_of 1349 rfl rfl)
set_option maxRecDepth 20000 in
theorem lL_133 : zLk RL 133 yX9_forget := Or.inl (zT_of 1353 rfl rfl)
set_option maxRecDepth 20000 in
theorem lL_137 : zLk RL 137 yX9_labels := Or.inl (zT_of 1357 rfl rfl)
set_option maxRecDepth 20000 in
theorem lX9_238 : zLk RX9 238 yX9_findWays := Or.inl (zT_of 1361 rfl rfl)
set_option maxRecDepth 20000 in
theorem lX9_234 : zLk RX9 234 yX9_isSo := Or.inl (zT_of 1365 rfl rfl)
set_option maxRecDepth 20000 in
theorem lL_141 : zLk RL 141 yX9_evening := Or.inl (zT_of 1369 rfl rfl)
set_option maxRecDepth 20000 in
theorem qX9_241 : Cond.constant RX9 241 (999999) ∈ zT := zT_of 1373 rfl rfl
set_option maxRecDepth 20000 in
theorem qX9_242 : Cond.constantLong RX9 242 (1103515245) ∈ zT := zT_of 1374 rfl rfl
set_option maxRecDepth 20000 in
theorem qX9_244 : Cond.constantLong RX9 244 (12345) ∈ zT := zT_of 1375 rfl rfl
set_option maxRecDepth 20000 in
theorem qX9_246 : Cond.constantLong RX9 246 (2147483648) ∈ zT := zT_of 1376 rfl rfl
set_option maxRecDepth 20000 in
theorem qX9_248 : Cond.constantLong RX9 248 (65536) ∈ zT := zT_of 1377 rfl rfl
set_option maxRecDepth 20000 in
theorem lL_146 : zLk RL 146 yX9_part := Or.inl (zT_of 1378 rfl rfl)
set_option maxRecDepth 20000 in
theorem lL_150 : zLk RL 150 yX9_image := Or.inl (zT_of 1382 rfl rfl)
set_option maxRecDepth 20000 in
theorem lL_154 : zLk RL 154 yX9_from := Or.inl (zT_of 1386 rfl rfl)
set_option maxRecDepth 20000 in
theorem lL_158 : zLk RL 158 yX9_status := Or.inl (zT_of 1390 rfl rfl)
set_option maxRecDepth 20000 in
theorem lL_162 : zLk RL 162 yX9_count := Or.inl (zT_of 1394 rfl rfl)
set_option maxRecDepth 20000 in
theorem lX9_250 : zLk RX9 250 yX9_counted := Or.inl (zT_of 1398 rfl rfl)
set_option maxRecDepth 20000 in
theorem lL_167 : zLk RL 167 yX9_digest := Or.inl (zT_of 1402 rfl rfl)
set_option maxRecDepth 20000 in
theorem qX9_255 : Cond.constantLong RX9 255 (857) ∈ zT := zT_of 1406 rfl rfl
set_option maxRecDepth 20000 in
theorem qX9_253 : Cond.constantLong RX9 253 (31) ∈ zT := zT_of 1407 rfl rfl
set_option maxRecDepth 20000 in
theorem lX9_257 : zLk RX9 257 yX9_digested := Or.inl (zT_of 1408 rfl rfl)
set_option maxRecDepth 20000 in
theorem w_objInst : Cond.instanceMethod Lib.objectInit ∈ zT := zT_of 102 rfl rfl
set_option maxRecDepth 20000 in
theorem w_objCode : Cond.code Lib.objectInit ⟨#[0xb1]⟩ 1 none ∈ zT := zT_of 103 rfl rfl
set_option maxRecDepth 20000 in
theorem w_copyStat : Cond.static arraycopyName ∈ zT := zT_of 420 rfl rfl
set_option maxRecDepth 20000 in
theorem w_copyIni : Cond.initialized "java/lang/System" ∈ zT := zT_of 89 rfl rfl
end
